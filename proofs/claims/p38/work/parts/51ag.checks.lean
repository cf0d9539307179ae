/-! ENTRIES and their checks: printed by a program (wip/ai). -/
/-- ColdShod$Road.farEnd(I)I -/
def kE281 : aE := (74, 0, ([kvB 0 2147483647], [], 0, [some (.inr [28, 29, 30, 31, 32, 33, 34, 35, 36, 37, 38, 39]), kvI 0], []), ([], none), ([kvA], [], kvI 1, ([], [])), kvW0)
theorem ks281 : aseg kS krf kB [] (ksp []) kE281 [] 30000 (none) = true := by decide +kernel
theorem kok281 : aOK kS krf kB kE281 := aOK_of kal0 kcl0 ks281
/-- ColdShod$Country.wearOf(LColdShod$Idea;LColdShod$Road;)I -/
def kE282 : aE := (23, 2, ([], [], 0, [kvR 7, kvR 64, some (.inr [28, 29, 30, 31, 32, 33, 34, 35, 36, 37, 38, 39])], []), ([], none), ([kvB 0 9], [], kvI 0, ([], [])), kvW5)
theorem ks282 : aseg kS krf kB [kE39] (ksp [(23, 0, 1, -1000, 1000, 0)]) kE282 [] 30000 (none) = true := by decide +kernel
theorem kok282 : aOK kS krf kB kE282 := aOK_of (kal1 kok39 kal0) kcl0 ks282
/-- ColdShod$Country.travel(LColdShod$Idea;LColdShod$Road;)I -/
def kE283 : aE := (24, 3, ([], [], 0, [kvR 7, kvR 64, some (.inr [28, 29, 30, 31, 32, 33, 34, 35, 36, 37, 38, 39]), none, none], []), ([], none), ([(.negSucc 1999999999, .ofNat 100000000)], [], kvI 0, ([], [])), kvW46)
def kC283_0 : aC := (([kvB 0 9, kvB 1 100000001, (.negSucc 1999999999, .ofNat 99)], [(64, 2, .inl (2, .ofNat 0))], 20, [kvR 7, kvR 64, some (.inr [28, 29, 30, 31, 32, 33, 34, 35, 36, 37, 38, 39]), kvI 0, kvI 1], []), ([], []), (100000001, [(-1, 1)]))
theorem ks283 : aseg kS krf kB [kE282] (ksp []) kE283 [kC283_0] 30000 (none) = true := by decide +kernel
theorem ks283_0 : aseg kS krf kB [kE282] (ksp []) kE283 [kC283_0] 30000 (some kC283_0) = true := by decide +kernel
theorem kok283 : aOK kS krf kB kE283 := aOK_of (kal1 kok282 kal0) (kcl1 ks283_0 kcl0) ks283
/-- ColdShod$Country.wearOf(LColdShod$Idea;LColdShod$Road;)I -/
def kE284 : aE := (23, 2, ([], [], 0, [kvR 7, kvR 65, some (.inr [28, 29, 30, 31, 32, 33, 34, 35, 36, 37, 38, 39])], []), ([], none), ([kvB 0 9], [], kvI 0, ([], [])), kvW5)
theorem ks284 : aseg kS krf kB [kE39] (ksp [(23, 0, 1, -1000, 1000, 0)]) kE284 [] 30000 (none) = true := by decide +kernel
theorem kok284 : aOK kS krf kB kE284 := aOK_of (kal1 kok39 kal0) kcl0 ks284
/-- ColdShod$Country.travel(LColdShod$Idea;LColdShod$Road;)I -/
def kE285 : aE := (24, 3, ([], [], 0, [kvR 7, kvR 65, some (.inr [28, 29, 30, 31, 32, 33, 34, 35, 36, 37, 38, 39]), none, none], []), ([], none), ([(.negSucc 1999999999, .ofNat 100000000)], [], kvI 0, ([], [])), kvW47)
def kC285_0 : aC := (([kvB 0 9, kvB 1 100000001, (.negSucc 1999999999, .ofNat 99)], [(65, 2, .inl (2, .ofNat 0))], 20, [kvR 7, kvR 65, some (.inr [28, 29, 30, 31, 32, 33, 34, 35, 36, 37, 38, 39]), kvI 0, kvI 1], []), ([], []), (100000001, [(-1, 1)]))
theorem ks285 : aseg kS krf kB [kE284] (ksp []) kE285 [kC285_0] 30000 (none) = true := by decide +kernel
theorem ks285_0 : aseg kS krf kB [kE284] (ksp []) kE285 [kC285_0] 30000 (some kC285_0) = true := by decide +kernel
theorem kok285 : aOK kS krf kB kE285 := aOK_of (kal1 kok284 kal0) (kcl1 ks285_0 kcl0) ks285
/-- ColdShod$Country.wearOf(LColdShod$Idea;LColdShod$Road;)I -/
def kE286 : aE := (23, 2, ([], [], 0, [kvR 7, kvR 66, some (.inr [28, 29, 30, 31, 32, 33, 34, 35, 36, 37, 38, 39])], []), ([], none), ([kvB 0 9], [], kvI 0, ([], [])), kvW5)
theorem ks286 : aseg kS krf kB [kE39] (ksp [(23, 0, 1, -1000, 1000, 0)]) kE286 [] 30000 (none) = true := by decide +kernel
theorem kok286 : aOK kS krf kB kE286 := aOK_of (kal1 kok39 kal0) kcl0 ks286
/-- ColdShod$Country.travel(LColdShod$Idea;LColdShod$Road;)I -/
def kE287 : aE := (24, 3, ([], [], 0, [kvR 7, kvR 66, some (.inr [28, 29, 30, 31, 32, 33, 34, 35, 36, 37, 38, 39]), none, none], []), ([], none), ([(.negSucc 1999999999, .ofNat 100000000)], [], kvI 0, ([], [])), kvW48)
def kC287_0 : aC := (([kvB 0 9, kvB 1 100000001, (.negSucc 1999999999, .ofNat 99)], [(66, 2, .inl (2, .ofNat 0))], 20, [kvR 7, kvR 66, some (.inr [28, 29, 30, 31, 32, 33, 34, 35, 36, 37, 38, 39]), kvI 0, kvI 1], []), ([], []), (100000001, [(-1, 1)]))
theorem ks287 : aseg kS krf kB [kE286] (ksp []) kE287 [kC287_0] 30000 (none) = true := by decide +kernel
theorem ks287_0 : aseg kS krf kB [kE286] (ksp []) kE287 [kC287_0] 30000 (some kC287_0) = true := by decide +kernel
theorem kok287 : aOK kS krf kB kE287 := aOK_of (kal1 kok286 kal0) (kcl1 ks287_0 kcl0) ks287
/-- ColdShod$Country.wearOf(LColdShod$Idea;LColdShod$Road;)I -/
def kE288 : aE := (23, 2, ([], [], 0, [kvR 7, kvR 67, some (.inr [28, 29, 30, 31, 32, 33, 34, 35, 36, 37, 38, 39])], []), ([], none), ([kvB 0 9], [], kvI 0, ([], [])), kvW5)
theorem ks288 : aseg kS krf kB [kE39] (ksp [(23, 0, 1, -1000, 1000, 0)]) kE288 [] 30000 (none) = true := by decide +kernel
theorem kok288 : aOK kS krf kB kE288 := aOK_of (kal1 kok39 kal0) kcl0 ks288
/-- ColdShod$Country.travel(LColdShod$Idea;LColdShod$Road;)I -/
def kE289 : aE := (24, 3, ([], [], 0, [kvR 7, kvR 67, some (.inr [28, 29, 30, 31, 32, 33, 34, 35, 36, 37, 38, 39]), none, none], []), ([], none), ([(.negSucc 1999999999, .ofNat 100000000)], [], kvI 0, ([], [])), kvW49)
def kC289_0 : aC := (([kvB 0 9, kvB 1 100000001, (.negSucc 1999999999, .ofNat 99)], [(67, 2, .inl (2, .ofNat 0))], 20, [kvR 7, kvR 67, some (.inr [28, 29, 30, 31, 32, 33, 34, 35, 36, 37, 38, 39]), kvI 0, kvI 1], []), ([], []), (100000001, [(-1, 1)]))
theorem ks289 : aseg kS krf kB [kE288] (ksp []) kE289 [kC289_0] 30000 (none) = true := by decide +kernel
theorem ks289_0 : aseg kS krf kB [kE288] (ksp []) kE289 [kC289_0] 30000 (some kC289_0) = true := by decide +kernel
theorem kok289 : aOK kS krf kB kE289 := aOK_of (kal1 kok288 kal0) (kcl1 ks289_0 kcl0) ks289
/-- ColdShod$Country.wearOf(LColdShod$Idea;LColdShod$Road;)I -/
def kE290 : aE := (23, 2, ([], [], 0, [kvR 7, kvR 68, some (.inr [28, 29, 30, 31, 32, 33, 34, 35, 36, 37, 38, 39])], []), ([], none), ([kvB 0 9], [], kvI 0, ([], [])), kvW5)
theorem ks290 : aseg kS krf kB [kE39] (ksp [(23, 0, 1, -1000, 1000, 0)]) kE290 [] 30000 (none) = true := by decide +kernel
theorem kok290 : aOK kS krf kB kE290 := aOK_of (kal1 kok39 kal0) kcl0 ks290
/-- ColdShod$Country.travel(LColdShod$Idea;LColdShod$Road;)I -/
def kE291 : aE := (24, 3, ([], [], 0, [kvR 7, kvR 68, some (.inr [28, 29, 30, 31, 32, 33, 34, 35, 36, 37, 38, 39]), none, none], []), ([], none), ([(.negSucc 1999999999, .ofNat 100000000)], [], kvI 0, ([], [])), kvW50)
def kC291_0 : aC := (([kvB 0 9, kvB 1 100000001, (.negSucc 1999999999, .ofNat 99)], [(68, 2, .inl (2, .ofNat 0))], 20, [kvR 7, kvR 68, some (.inr [28, 29, 30, 31, 32, 33, 34, 35, 36, 37, 38, 39]), kvI 0, kvI 1], []), ([], []), (100000001, [(-1, 1)]))
theorem ks291 : aseg kS krf kB [kE290] (ksp []) kE291 [kC291_0] 30000 (none) = true := by decide +kernel
theorem ks291_0 : aseg kS krf kB [kE290] (ksp []) kE291 [kC291_0] 30000 (some kC291_0) = true := by decide +kernel
theorem kok291 : aOK kS krf kB kE291 := aOK_of (kal1 kok290 kal0) (kcl1 ks291_0 kcl0) ks291
/-- ColdShod$Country.wearOf(LColdShod$Idea;LColdShod$Road;)I -/
def kE292 : aE := (23, 2, ([], [], 0, [kvR 7, kvR 69, some (.inr [28, 29, 30, 31, 32, 33, 34, 35, 36, 37, 38, 39])], []), ([], none), ([kvB 0 9], [], kvI 0, ([], [])), kvW5)
theorem ks292 : aseg kS krf kB [kE39] (ksp [(23, 0, 1, -1000, 1000, 0)]) kE292 [] 30000 (none) = true := by decide +kernel
theorem kok292 : aOK kS krf kB kE292 := aOK_of (kal1 kok39 kal0) kcl0 ks292
/-- ColdShod$Country.travel(LColdShod$Idea;LColdShod$Road;)I -/
def kE293 : aE := (24, 3, ([], [], 0, [kvR 7, kvR 69, some (.inr [28, 29, 30, 31, 32, 33, 34, 35, 36, 37, 38, 39]), none, none], []), ([], none), ([(.negSucc 1999999999, .ofNat 100000000)], [], kvI 0, ([], [])), kvW51)
def kC293_0 : aC := (([kvB 0 9, kvB 1 100000001, (.negSucc 1999999999, .ofNat 99)], [(69, 2, .inl (2, .ofNat 0))], 20, [kvR 7, kvR 69, some (.inr [28, 29, 30, 31, 32, 33, 34, 35, 36, 37, 38, 39]), kvI 0, kvI 1], []), ([], []), (100000001, [(-1, 1)]))
theorem ks293 : aseg kS krf kB [kE292] (ksp []) kE293 [kC293_0] 30000 (none) = true := by decide +kernel
theorem ks293_0 : aseg kS krf kB [kE292] (ksp []) kE293 [kC293_0] 30000 (some kC293_0) = true := by decide +kernel
theorem kok293 : aOK kS krf kB kE293 := aOK_of (kal1 kok292 kal0) (kcl1 ks293_0 kcl0) ks293
/-- ColdShod$Country.wearOf(LColdShod$Idea;LColdShod$Road;)I -/
def kE294 : aE := (23, 2, ([], [], 0, [kvR 7, kvR 70, some (.inr [28, 29, 30, 31, 32, 33, 34, 35, 36, 37, 38, 39])], []), ([], none), ([kvB 0 9], [], kvI 0, ([], [])), kvW5)
theorem ks294 : aseg kS krf kB [kE39] (ksp [(23, 0, 1, -1000, 1000, 0)]) kE294 [] 30000 (none) = true := by decide +kernel
theorem kok294 : aOK kS krf kB kE294 := aOK_of (kal1 kok39 kal0) kcl0 ks294
/-- ColdShod$Country.travel(LColdShod$Idea;LColdShod$Road;)I -/
def kE295 : aE := (24, 3, ([], [], 0, [kvR 7, kvR 70, some (.inr [28, 29, 30, 31, 32, 33, 34, 35, 36, 37, 38, 39]), none, none], []), ([], none), ([(.negSucc 1999999999, .ofNat 100000000)], [], kvI 0, ([], [])), kvW52)
def kC295_0 : aC := (([kvB 0 9, kvB 1 100000001, (.negSucc 1999999999, .ofNat 99)], [(70, 2, .inl (2, .ofNat 0))], 20, [kvR 7, kvR 70, some (.inr [28, 29, 30, 31, 32, 33, 34, 35, 36, 37, 38, 39]), kvI 0, kvI 1], []), ([], []), (100000001, [(-1, 1)]))
theorem ks295 : aseg kS krf kB [kE294] (ksp []) kE295 [kC295_0] 30000 (none) = true := by decide +kernel
theorem ks295_0 : aseg kS krf kB [kE294] (ksp []) kE295 [kC295_0] 30000 (some kC295_0) = true := by decide +kernel
theorem kok295 : aOK kS krf kB kE295 := aOK_of (kal1 kok294 kal0) (kcl1 ks295_0 kcl0) ks295
/-- ColdShod$WayPlan.follow(LColdShod$Country;IIII)V -/
def kE296 : aE := (90, 1, ([kvB 0 2147483647, kvB 0 7, kvA], [], 0, [kvR 59, kvR 7, kvI 0, kvI 1, kvI 2, kvN 7, none, none, none], []), ([], none), ([], [], none, ([], [])), kvW53)
def kC296_0 : aC := (([kvB 0 2147483647, kvB 0 7, kvA], [], 11, [kvR 59, kvR 7, kvI 0, kvI 1, kvI 2, kvN 7, none, none, none], []), ([], []), (0, []))
theorem ks296 : aseg kS krf kB [] (ksp []) kE296 [kC296_0] 30000 (none) = true := by decide +kernel
theorem ks296_0 : aseg kS krf kB [] (ksp []) kE296 [kC296_0] 30000 (some kC296_0) = true := by decide +kernel
theorem kok296 : aOK kS krf kB kE296 := aOK_of kal0 (kcl1 ks296_0 kcl0) ks296
/-- ColdShod$WayPlan.follow(LColdShod$Country;IIII)V -/
def kE297 : aE := (90, 4, ([kvB 0 2147483647, kvB 0 7, kvA], [], 0, [kvR 59, kvR 7, kvI 0, kvI 1, kvI 2, kvN 6, none, none, none], []), ([], none), ([], [], none, ([], [])), kvW54)
def kC297_0 : aC := (([kvB 0 2147483647, kvB 0 7, kvA], [], 11, [kvR 59, kvR 7, kvI 0, kvI 1, kvI 2, kvN 6, none, none, none], []), ([], []), (64424509471, []))
def kC297_1 : aC := (([kvB 0 2147483647, kvB 0 7, kvA, kvB 0 12], [], 32, [kvR 59, kvR 7, kvI 0, kvI 1, kvI 2, kvN 6, kvI 3, none, none], []), ([], []), (55834574872, [(-4294967298, 3)]))
def kC297_2 : aC := (([kvB 0 2147483647, kvB 0 7, kvA, kvB 0 11, kvA, kvB 1 12], [(7, 8, .inl (5, .ofNat 0))], 149, [kvR 59, kvR 7, kvI 0, kvI 1, kvI 2, kvN 6, kvI 3, some (.inr [28, 29, 30, 31, 32, 33, 34, 35, 36, 37, 38, 39]), kvI 4], []), ([], []), (53687091223, [(-4294967298, 3), (-1, 4)]))
theorem ks297 : aseg kS krf kB [kE281, kE295, kE296] (ksp []) kE297 [kC297_0, kC297_1, kC297_2] 30000 (none) = true := by decide +kernel
theorem ks297_0 : aseg kS krf kB [kE281, kE295, kE296] (ksp []) kE297 [kC297_0, kC297_1, kC297_2] 30000 (some kC297_0) = true := by decide +kernel
theorem ks297_1 : aseg kS krf kB [kE281, kE295, kE296] (ksp []) kE297 [kC297_0, kC297_1, kC297_2] 30000 (some kC297_1) = true := by decide +kernel
theorem ks297_2 : aseg kS krf kB [kE281, kE295, kE296] (ksp []) kE297 [kC297_0, kC297_1, kC297_2] 30000 (some kC297_2) = true := by decide +kernel
theorem kok297 : aOK kS krf kB kE297 := aOK_of (kal1 kok281 (kal1 kok295 (kal1 kok296 kal0))) (kcl1 ks297_0 (kcl1 ks297_1 (kcl1 ks297_2 kcl0))) ks297
/-- ColdShod$WayPlan.follow(LColdShod$Country;IIII)V -/
def kE298 : aE := (90, 5, ([kvB 0 2147483647, kvB 0 7, kvA], [], 0, [kvR 59, kvR 7, kvI 0, kvI 1, kvI 2, kvN 5, none, none, none], []), ([], none), ([], [], none, ([], [])), kvW55)
def kC298_0 : aC := (([kvB 0 2147483647, kvB 0 7, kvA], [], 11, [kvR 59, kvR 7, kvI 0, kvI 1, kvI 2, kvN 5, none, none, none], []), ([], []), (64424509471, []))
def kC298_1 : aC := (([kvB 0 2147483647, kvB 0 7, kvA, kvB 0 12], [], 32, [kvR 59, kvR 7, kvI 0, kvI 1, kvI 2, kvN 5, kvI 3, none, none], []), ([], []), (55834574872, [(-4294967298, 3)]))
def kC298_2 : aC := (([kvB 0 2147483647, kvB 0 7, kvA, kvB 0 11, kvA, kvB 1 12], [(7, 8, .inl (5, .ofNat 0))], 149, [kvR 59, kvR 7, kvI 0, kvI 1, kvI 2, kvN 5, kvI 3, some (.inr [28, 29, 30, 31, 32, 33, 34, 35, 36, 37, 38, 39]), kvI 4], []), ([], []), (53687091223, [(-4294967298, 3), (-1, 4)]))
theorem ks298 : aseg kS krf kB [kE281, kE293, kE297] (ksp []) kE298 [kC298_0, kC298_1, kC298_2] 30000 (none) = true := by decide +kernel
theorem ks298_0 : aseg kS krf kB [kE281, kE293, kE297] (ksp []) kE298 [kC298_0, kC298_1, kC298_2] 30000 (some kC298_0) = true := by decide +kernel
theorem ks298_1 : aseg kS krf kB [kE281, kE293, kE297] (ksp []) kE298 [kC298_0, kC298_1, kC298_2] 30000 (some kC298_1) = true := by decide +kernel
theorem ks298_2 : aseg kS krf kB [kE281, kE293, kE297] (ksp []) kE298 [kC298_0, kC298_1, kC298_2] 30000 (some kC298_2) = true := by decide +kernel
theorem kok298 : aOK kS krf kB kE298 := aOK_of (kal1 kok281 (kal1 kok293 (kal1 kok297 kal0))) (kcl1 ks298_0 (kcl1 ks298_1 (kcl1 ks298_2 kcl0))) ks298
/-- ColdShod$WayPlan.follow(LColdShod$Country;IIII)V -/
def kE299 : aE := (90, 6, ([kvB 0 2147483647, kvB 0 7, kvA], [], 0, [kvR 59, kvR 7, kvI 0, kvI 1, kvI 2, kvN 4, none, none, none], []), ([], none), ([], [], none, ([], [])), kvW56)
def kC299_0 : aC := (([kvB 0 2147483647, kvB 0 7, kvA], [], 11, [kvR 59, kvR 7, kvI 0, kvI 1, kvI 2, kvN 4, none, none, none], []), ([], []), (64424509471, []))
def kC299_1 : aC := (([kvB 0 2147483647, kvB 0 7, kvA, kvB 0 12], [], 32, [kvR 59, kvR 7, kvI 0, kvI 1, kvI 2, kvN 4, kvI 3, none, none], []), ([], []), (55834574872, [(-4294967298, 3)]))
def kC299_2 : aC := (([kvB 0 2147483647, kvB 0 7, kvA, kvB 0 11, kvA, kvB 1 12], [(7, 8, .inl (5, .ofNat 0))], 149, [kvR 59, kvR 7, kvI 0, kvI 1, kvI 2, kvN 4, kvI 3, some (.inr [28, 29, 30, 31, 32, 33, 34, 35, 36, 37, 38, 39]), kvI 4], []), ([], []), (53687091223, [(-4294967298, 3), (-1, 4)]))
theorem ks299 : aseg kS krf kB [kE281, kE291, kE298] (ksp []) kE299 [kC299_0, kC299_1, kC299_2] 30000 (none) = true := by decide +kernel
theorem ks299_0 : aseg kS krf kB [kE281, kE291, kE298] (ksp []) kE299 [kC299_0, kC299_1, kC299_2] 30000 (some kC299_0) = true := by decide +kernel
theorem ks299_1 : aseg kS krf kB [kE281, kE291, kE298] (ksp []) kE299 [kC299_0, kC299_1, kC299_2] 30000 (some kC299_1) = true := by decide +kernel
theorem ks299_2 : aseg kS krf kB [kE281, kE291, kE298] (ksp []) kE299 [kC299_0, kC299_1, kC299_2] 30000 (some kC299_2) = true := by decide +kernel
theorem kok299 : aOK kS krf kB kE299 := aOK_of (kal1 kok281 (kal1 kok291 (kal1 kok298 kal0))) (kcl1 ks299_0 (kcl1 ks299_1 (kcl1 ks299_2 kcl0))) ks299
/-- ColdShod$WayPlan.follow(LColdShod$Country;IIII)V -/
def kE300 : aE := (90, 7, ([kvB 0 2147483647, kvB 0 7, kvA], [], 0, [kvR 59, kvR 7, kvI 0, kvI 1, kvI 2, kvN 3, none, none, none], []), ([], none), ([], [], none, ([], [])), kvW57)
def kC300_0 : aC := (([kvB 0 2147483647, kvB 0 7, kvA], [], 11, [kvR 59, kvR 7, kvI 0, kvI 1, kvI 2, kvN 3, none, none, none], []), ([], []), (64424509471, []))
def kC300_1 : aC := (([kvB 0 2147483647, kvB 0 7, kvA, kvB 0 12], [], 32, [kvR 59, kvR 7, kvI 0, kvI 1, kvI 2, kvN 3, kvI 3, none, none], []), ([], []), (55834574872, [(-4294967298, 3)]))
def kC300_2 : aC := (([kvB 0 2147483647, kvB 0 7, kvA, kvB 0 11, kvA, kvB 1 12], [(7, 8, .inl (5, .ofNat 0))], 149, [kvR 59, kvR 7, kvI 0, kvI 1, kvI 2, kvN 3, kvI 3, some (.inr [28, 29, 30, 31, 32, 33, 34, 35, 36, 37, 38, 39]), kvI 4], []), ([], []), (53687091223, [(-4294967298, 3), (-1, 4)]))
theorem ks300 : aseg kS krf kB [kE281, kE289, kE299] (ksp []) kE300 [kC300_0, kC300_1, kC300_2] 30000 (none) = true := by decide +kernel
theorem ks300_0 : aseg kS krf kB [kE281, kE289, kE299] (ksp []) kE300 [kC300_0, kC300_1, kC300_2] 30000 (some kC300_0) = true := by decide +kernel
theorem ks300_1 : aseg kS krf kB [kE281, kE289, kE299] (ksp []) kE300 [kC300_0, kC300_1, kC300_2] 30000 (some kC300_1) = true := by decide +kernel
theorem ks300_2 : aseg kS krf kB [kE281, kE289, kE299] (ksp []) kE300 [kC300_0, kC300_1, kC300_2] 30000 (some kC300_2) = true := by decide +kernel
theorem kok300 : aOK kS krf kB kE300 := aOK_of (kal1 kok281 (kal1 kok289 (kal1 kok299 kal0))) (kcl1 ks300_0 (kcl1 ks300_1 (kcl1 ks300_2 kcl0))) ks300
/-- ColdShod$WayPlan.follow(LColdShod$Country;IIII)V -/
def kE301 : aE := (90, 8, ([kvB 0 2147483647, kvB 0 7, kvA], [], 0, [kvR 59, kvR 7, kvI 0, kvI 1, kvI 2, kvN 2, none, none, none], []), ([], none), ([], [], none, ([], [])), kvW58)
def kC301_0 : aC := (([kvB 0 2147483647, kvB 0 7, kvA], [], 11, [kvR 59, kvR 7, kvI 0, kvI 1, kvI 2, kvN 2, none, none, none], []), ([], []), (64424509471, []))
def kC301_1 : aC := (([kvB 0 2147483647, kvB 0 7, kvA, kvB 0 12], [], 32, [kvR 59, kvR 7, kvI 0, kvI 1, kvI 2, kvN 2, kvI 3, none, none], []), ([], []), (55834574872, [(-4294967298, 3)]))
def kC301_2 : aC := (([kvB 0 2147483647, kvB 0 7, kvA, kvB 0 11, kvA, kvB 1 12], [(7, 8, .inl (5, .ofNat 0))], 149, [kvR 59, kvR 7, kvI 0, kvI 1, kvI 2, kvN 2, kvI 3, some (.inr [28, 29, 30, 31, 32, 33, 34, 35, 36, 37, 38, 39]), kvI 4], []), ([], []), (53687091223, [(-4294967298, 3), (-1, 4)]))
theorem ks301 : aseg kS krf kB [kE281, kE287, kE300] (ksp []) kE301 [kC301_0, kC301_1, kC301_2] 30000 (none) = true := by decide +kernel
theorem ks301_0 : aseg kS krf kB [kE281, kE287, kE300] (ksp []) kE301 [kC301_0, kC301_1, kC301_2] 30000 (some kC301_0) = true := by decide +kernel
theorem ks301_1 : aseg kS krf kB [kE281, kE287, kE300] (ksp []) kE301 [kC301_0, kC301_1, kC301_2] 30000 (some kC301_1) = true := by decide +kernel
theorem ks301_2 : aseg kS krf kB [kE281, kE287, kE300] (ksp []) kE301 [kC301_0, kC301_1, kC301_2] 30000 (some kC301_2) = true := by decide +kernel
theorem kok301 : aOK kS krf kB kE301 := aOK_of (kal1 kok281 (kal1 kok287 (kal1 kok300 kal0))) (kcl1 ks301_0 (kcl1 ks301_1 (kcl1 ks301_2 kcl0))) ks301
/-- ColdShod$WayPlan.follow(LColdShod$Country;IIII)V -/
def kE302 : aE := (90, 9, ([kvB 0 2147483647, kvB 0 7, kvA], [], 0, [kvR 59, kvR 7, kvI 0, kvI 1, kvI 2, kvN 1, none, none, none], []), ([], none), ([], [], none, ([], [])), kvW59)
def kC302_0 : aC := (([kvB 0 2147483647, kvB 0 7, kvA], [], 11, [kvR 59, kvR 7, kvI 0, kvI 1, kvI 2, kvN 1, none, none, none], []), ([], []), (64424509471, []))
def kC302_1 : aC := (([kvB 0 2147483647, kvB 0 7, kvA, kvB 0 12], [], 32, [kvR 59, kvR 7, kvI 0, kvI 1, kvI 2, kvN 1, kvI 3, none, none], []), ([], []), (55834574872, [(-4294967298, 3)]))
def kC302_2 : aC := (([kvB 0 2147483647, kvB 0 7, kvA, kvB 0 11, kvA, kvB 1 12], [(7, 8, .inl (5, .ofNat 0))], 149, [kvR 59, kvR 7, kvI 0, kvI 1, kvI 2, kvN 1, kvI 3, some (.inr [28, 29, 30, 31, 32, 33, 34, 35, 36, 37, 38, 39]), kvI 4], []), ([], []), (53687091223, [(-4294967298, 3), (-1, 4)]))
theorem ks302 : aseg kS krf kB [kE281, kE285, kE301] (ksp []) kE302 [kC302_0, kC302_1, kC302_2] 30000 (none) = true := by decide +kernel
theorem ks302_0 : aseg kS krf kB [kE281, kE285, kE301] (ksp []) kE302 [kC302_0, kC302_1, kC302_2] 30000 (some kC302_0) = true := by decide +kernel
theorem ks302_1 : aseg kS krf kB [kE281, kE285, kE301] (ksp []) kE302 [kC302_0, kC302_1, kC302_2] 30000 (some kC302_1) = true := by decide +kernel
theorem ks302_2 : aseg kS krf kB [kE281, kE285, kE301] (ksp []) kE302 [kC302_0, kC302_1, kC302_2] 30000 (some kC302_2) = true := by decide +kernel
theorem kok302 : aOK kS krf kB kE302 := aOK_of (kal1 kok281 (kal1 kok285 (kal1 kok301 kal0))) (kcl1 ks302_0 (kcl1 ks302_1 (kcl1 ks302_2 kcl0))) ks302
/-- ColdShod$WayPlan.follow(LColdShod$Country;IIII)V -/
def kE303 : aE := (90, 10, ([kvB 0 7, kvB 0 7, kvA], [], 0, [kvR 59, kvR 7, kvI 0, kvI 1, kvI 2, kvN 0, none, none, none], []), ([], none), ([], [], none, ([], [])), kvW60)
def kC303_0 : aC := (([kvB 0 7, kvB 0 7, kvA], [], 11, [kvR 59, kvR 7, kvI 0, kvI 1, kvI 2, kvN 0, none, none, none], []), ([], []), (64424509471, []))
def kC303_1 : aC := (([kvB 0 7, kvB 0 7, kvA, kvB 0 12], [], 32, [kvR 59, kvR 7, kvI 0, kvI 1, kvI 2, kvN 0, kvI 3, none, none], []), ([], []), (55834574872, [(-4294967298, 3)]))
def kC303_2 : aC := (([kvB 0 7, kvB 0 7, kvA, kvB 0 11, kvA, kvB 1 12], [(7, 8, .inl (5, .ofNat 0))], 149, [kvR 59, kvR 7, kvI 0, kvI 1, kvI 2, kvN 0, kvI 3, some (.inr [28, 29, 30, 31, 32, 33, 34, 35, 36, 37, 38, 39]), kvI 4], []), ([], []), (53687091223, [(-4294967298, 3), (-1, 4)]))
theorem ks303 : aseg kS krf kB [kE281, kE283, kE302] (ksp []) kE303 [kC303_0, kC303_1, kC303_2] 30000 (none) = true := by decide +kernel
theorem ks303_0 : aseg kS krf kB [kE281, kE283, kE302] (ksp []) kE303 [kC303_0, kC303_1, kC303_2] 30000 (some kC303_0) = true := by decide +kernel
theorem ks303_1 : aseg kS krf kB [kE281, kE283, kE302] (ksp []) kE303 [kC303_0, kC303_1, kC303_2] 30000 (some kC303_1) = true := by decide +kernel
theorem ks303_2 : aseg kS krf kB [kE281, kE283, kE302] (ksp []) kE303 [kC303_0, kC303_1, kC303_2] 30000 (some kC303_2) = true := by decide +kernel
theorem kok303 : aOK kS krf kB kE303 := aOK_of (kal1 kok281 (kal1 kok283 (kal1 kok302 kal0))) (kcl1 ks303_0 (kcl1 ks303_1 (kcl1 ks303_2 kcl0))) ks303
/-- ColdShod.way(III)I -/
def kE304 : aE := (105, 12, ([(.negSucc 2147483647, .ofNat 2147483647), (.negSucc 2147483647, .ofNat 2147483647), (.negSucc 2147483647, .ofNat 2147483647)], [], 0, [some (.inr [6]), some (.inl (.inl (.inl (0, .ofNat 0)))), some (.inl (.inl (.inl (1, .ofNat 0)))), some (.inl (.inl (.inl (2, .ofNat 0))))], []), ([], none), ([(.negSucc 2147483647, .ofNat 2147483647)], [], some (.inl (.inl (.inl (3, .ofNat 0)))), ([], [])), ([(13, 0), (13, 1), (13, 2), (13, 3), (13, 4), (13, 5), (59, 1), (59, 2), (61, 0), (61, 1), (61, 2), (61, 3), (61, 4), (61, 5), (61, 6), (63, 0), (63, 1), (63, 2), (63, 3), (63, 4), (63, 5), (63, 6), (64, 0), (64, 1), (64, 2), (64, 3), (64, 4), (64, 5), (64, 6), (65, 0), (65, 1), (65, 2), (65, 3), (65, 4), (65, 5), (65, 6), (66, 0), (66, 1), (66, 2), (66, 3), (66, 4), (66, 5), (66, 6), (67, 0), (67, 1), (67, 2), (67, 3), (67, 4), (67, 5), (67, 6), (68, 0), (68, 1), (68, 2), (68, 3), (68, 4), (68, 5), (68, 6), (69, 0), (69, 1), (69, 2), (69, 3), (69, 4), (69, 5), (69, 6), (70, 0), (70, 1), (70, 2), (70, 3), (70, 4), (70, 5), (70, 6)], [16, 19, 60, 1000]))
theorem ks304 : aseg kS krf kB [kE303] (ksp [(105, 74, 3, -2, 8, 0)]) kE304 [] 30000 (none) = true := by decide +kernel
theorem kok304 : aOK kS krf kB kE304 := aOK_of (kal1 kok303 kal0) kcl0 ks304
/-- ColdShodModel.triesWay(IIIII)V -/
def kE305 : aE := (192, 46, ([kvB 0 7, kvB 0 7, kvB 0 7], [], 0, [kvR 102, kvI 0, kvI 1, kvI 2, kvN 255, kvN 7, none, none], []), ([], none), ([], [], none, ([], [])), kvW61)
def kC305_0 : aC := (([kvB 0 7, kvB 0 7, kvB 0 7, kvB 0 1, kvB 0 7], [], 16, [kvR 102, kvI 0, kvI 1, kvI 2, kvN 255, kvN 7, kvI 3, kvI 4], []), ([], []), (339, [(-1, 4)]))
def kC305_1 : aC := (([kvB 0 7, kvB 0 7, kvB 0 7, kvB 0 12], [], 141, [kvR 102, kvI 0, kvI 1, kvI 2, kvN 255, kvN 7, kvI 3, none], []), ([], []), (141, [(-11, 3)]))
def kC305_2 : aC := (([kvB 0 7, kvB 0 7, kvB 0 7, kvB 0 11, (.negSucc 0, .ofNat 7), kvB 1 12], [(102, 8, .inl (5, .ofNat 0))], 195, [kvR 102, kvI 0, kvI 1, kvI 2, kvN 255, kvN 7, kvI 3, kvI 4], []), ([], []), (139, [(-11, 3), (-1, 4)]))
def kC305_3 : aC := (([kvB 0 7, kvB 0 7, kvB 0 7, (.negSucc 0, .ofNat 2147483647)], [(102, 29, .inl (3, .ofNat 0))], 91, [kvR 102, kvI 0, kvI 1, kvI 2, kvN 255, kvN 7, kvN 1, kvN 7], []), ([], []), (166, []))
def kC305_4 : aC := (([kvB 0 7, kvB 0 7, kvB 0 7, kvB 0 7, (.negSucc 0, .ofNat 99)], [(102, 29, .inl (4, .ofNat 0)), (102, 30, .inr (.ofNat 7))], 110, [kvR 102, kvI 0, kvI 1, kvI 2, kvN 255, kvN 7, kvN 1, kvI 3], []), ([], []), (7, [(-1, 3)]))
theorem ks305 : aseg kS krf kB [kE43, kE89] (ksp [(192, 200, 7, 0, 7, 0)]) kE305 [kC305_0, kC305_1, kC305_2, kC305_3, kC305_4] 30000 (none) = true := by decide +kernel
theorem ks305_0 : aseg kS krf kB [kE43, kE89] (ksp [(192, 200, 7, 0, 7, 0)]) kE305 [kC305_0, kC305_1, kC305_2, kC305_3, kC305_4] 30000 (some kC305_0) = true := by decide +kernel
theorem ks305_1 : aseg kS krf kB [kE43, kE89] (ksp [(192, 200, 7, 0, 7, 0)]) kE305 [kC305_0, kC305_1, kC305_2, kC305_3, kC305_4] 30000 (some kC305_1) = true := by decide +kernel
theorem ks305_2 : aseg kS krf kB [kE43, kE89] (ksp [(192, 200, 7, 0, 7, 0)]) kE305 [kC305_0, kC305_1, kC305_2, kC305_3, kC305_4] 30000 (some kC305_2) = true := by decide +kernel
theorem ks305_3 : aseg kS krf kB [kE43, kE89] (ksp [(192, 200, 7, 0, 7, 0)]) kE305 [kC305_0, kC305_1, kC305_2, kC305_3, kC305_4] 30000 (some kC305_3) = true := by decide +kernel
theorem ks305_4 : aseg kS krf kB [kE43, kE89] (ksp [(192, 200, 7, 0, 7, 0)]) kE305 [kC305_0, kC305_1, kC305_2, kC305_3, kC305_4] 30000 (some kC305_4) = true := by decide +kernel
theorem kok305 : aOK kS krf kB kE305 := aOK_of (kal1 kok43 (kal1 kok89 kal0)) (kcl1 ks305_0 (kcl1 ks305_1 (kcl1 ks305_2 (kcl1 ks305_3 (kcl1 ks305_4 kcl0))))) ks305
/-- ColdShodModel.triesWay(IIIII)V -/
def kE306 : aE := (192, 47, ([kvB 0 7, kvB 0 7, kvB 0 7], [], 0, [kvR 102, kvI 0, kvI 1, kvI 2, kvN 254, kvN 6, none, none], []), ([], none), ([], [], none, ([], [])), kvW62)
def kC306_0 : aC := (([kvB 0 7, kvB 0 7, kvB 0 7, kvB 0 1, kvB 0 6], [], 16, [kvR 102, kvI 0, kvI 1, kvI 2, kvN 254, kvN 6, kvI 3, kvI 4], []), ([], []), (338, [(-1, 4)]))
def kC306_1 : aC := (([kvB 0 7, kvB 0 7, kvB 0 7, kvB 0 12], [], 141, [kvR 102, kvI 0, kvI 1, kvI 2, kvN 254, kvN 6, kvI 3, none], []), ([], []), (141, [(-11, 3)]))
def kC306_2 : aC := (([kvB 0 7, kvB 0 7, kvB 0 7, kvB 0 11, (.negSucc 0, .ofNat 7), kvB 1 12], [(102, 8, .inl (5, .ofNat 0))], 195, [kvR 102, kvI 0, kvI 1, kvI 2, kvN 254, kvN 6, kvI 3, kvI 4], []), ([], []), (139, [(-11, 3), (-1, 4)]))
def kC306_3 : aC := (([kvB 0 7, kvB 0 7, kvB 0 7, (.negSucc 0, .ofNat 2147483647)], [(102, 29, .inl (3, .ofNat 0))], 91, [kvR 102, kvI 0, kvI 1, kvI 2, kvN 254, kvN 6, kvN 1, kvN 6], []), ([], []), (166, []))
def kC306_4 : aC := (([kvB 0 7, kvB 0 7, kvB 0 7, kvB 0 6, (.negSucc 0, .ofNat 99)], [(102, 29, .inl (4, .ofNat 0)), (102, 30, .inr (.ofNat 6))], 110, [kvR 102, kvI 0, kvI 1, kvI 2, kvN 254, kvN 6, kvN 1, kvI 3], []), ([], []), (6, [(-1, 3)]))
theorem ks306 : aseg kS krf kB [kE43, kE89, kE305] (ksp [(192, 200, 7, 0, 7, 0)]) kE306 [kC306_0, kC306_1, kC306_2, kC306_3, kC306_4] 30000 (none) = true := by decide +kernel
theorem ks306_0 : aseg kS krf kB [kE43, kE89, kE305] (ksp [(192, 200, 7, 0, 7, 0)]) kE306 [kC306_0, kC306_1, kC306_2, kC306_3, kC306_4] 30000 (some kC306_0) = true := by decide +kernel
theorem ks306_1 : aseg kS krf kB [kE43, kE89, kE305] (ksp [(192, 200, 7, 0, 7, 0)]) kE306 [kC306_0, kC306_1, kC306_2, kC306_3, kC306_4] 30000 (some kC306_1) = true := by decide +kernel
theorem ks306_2 : aseg kS krf kB [kE43, kE89, kE305] (ksp [(192, 200, 7, 0, 7, 0)]) kE306 [kC306_0, kC306_1, kC306_2, kC306_3, kC306_4] 30000 (some kC306_2) = true := by decide +kernel
theorem ks306_3 : aseg kS krf kB [kE43, kE89, kE305] (ksp [(192, 200, 7, 0, 7, 0)]) kE306 [kC306_0, kC306_1, kC306_2, kC306_3, kC306_4] 30000 (some kC306_3) = true := by decide +kernel
theorem ks306_4 : aseg kS krf kB [kE43, kE89, kE305] (ksp [(192, 200, 7, 0, 7, 0)]) kE306 [kC306_0, kC306_1, kC306_2, kC306_3, kC306_4] 30000 (some kC306_4) = true := by decide +kernel
theorem kok306 : aOK kS krf kB kE306 := aOK_of (kal1 kok43 (kal1 kok89 (kal1 kok305 kal0))) (kcl1 ks306_0 (kcl1 ks306_1 (kcl1 ks306_2 (kcl1 ks306_3 (kcl1 ks306_4 kcl0))))) ks306
/-- ColdShodModel.triesWay(IIIII)V -/
def kE307 : aE := (192, 47, ([kvB 0 7, kvB 0 7, kvB 0 7], [], 0, [kvR 102, kvI 0, kvI 1, kvI 2, kvN 253, kvN 6, none, none], []), ([], none), ([], [], none, ([], [])), kvW62)
def kC307_0 : aC := (([kvB 0 7, kvB 0 7, kvB 0 7, kvB 0 1, kvB 0 6], [], 16, [kvR 102, kvI 0, kvI 1, kvI 2, kvN 253, kvN 6, kvI 3, kvI 4], []), ([], []), (338, [(-1, 4)]))
def kC307_1 : aC := (([kvB 0 7, kvB 0 7, kvB 0 7, kvB 0 12], [], 141, [kvR 102, kvI 0, kvI 1, kvI 2, kvN 253, kvN 6, kvI 3, none], []), ([], []), (141, [(-11, 3)]))
def kC307_2 : aC := (([kvB 0 7, kvB 0 7, kvB 0 7, kvB 0 11, (.negSucc 0, .ofNat 7), kvB 1 12], [(102, 8, .inl (5, .ofNat 0))], 195, [kvR 102, kvI 0, kvI 1, kvI 2, kvN 253, kvN 6, kvI 3, kvI 4], []), ([], []), (139, [(-11, 3), (-1, 4)]))
def kC307_3 : aC := (([kvB 0 7, kvB 0 7, kvB 0 7, (.negSucc 0, .ofNat 2147483647)], [(102, 29, .inl (3, .ofNat 0))], 91, [kvR 102, kvI 0, kvI 1, kvI 2, kvN 253, kvN 6, kvN 1, kvN 6], []), ([], []), (166, []))
def kC307_4 : aC := (([kvB 0 7, kvB 0 7, kvB 0 7, kvB 0 6, (.negSucc 0, .ofNat 99)], [(102, 29, .inl (4, .ofNat 0)), (102, 30, .inr (.ofNat 6))], 110, [kvR 102, kvI 0, kvI 1, kvI 2, kvN 253, kvN 6, kvN 1, kvI 3], []), ([], []), (6, [(-1, 3)]))
theorem ks307 : aseg kS krf kB [kE43, kE89, kE305] (ksp [(192, 200, 7, 0, 7, 0)]) kE307 [kC307_0, kC307_1, kC307_2, kC307_3, kC307_4] 30000 (none) = true := by decide +kernel
theorem ks307_0 : aseg kS krf kB [kE43, kE89, kE305] (ksp [(192, 200, 7, 0, 7, 0)]) kE307 [kC307_0, kC307_1, kC307_2, kC307_3, kC307_4] 30000 (some kC307_0) = true := by decide +kernel
theorem ks307_1 : aseg kS krf kB [kE43, kE89, kE305] (ksp [(192, 200, 7, 0, 7, 0)]) kE307 [kC307_0, kC307_1, kC307_2, kC307_3, kC307_4] 30000 (some kC307_1) = true := by decide +kernel
theorem ks307_2 : aseg kS krf kB [kE43, kE89, kE305] (ksp [(192, 200, 7, 0, 7, 0)]) kE307 [kC307_0, kC307_1, kC307_2, kC307_3, kC307_4] 30000 (some kC307_2) = true := by decide +kernel
theorem ks307_3 : aseg kS krf kB [kE43, kE89, kE305] (ksp [(192, 200, 7, 0, 7, 0)]) kE307 [kC307_0, kC307_1, kC307_2, kC307_3, kC307_4] 30000 (some kC307_3) = true := by decide +kernel
theorem ks307_4 : aseg kS krf kB [kE43, kE89, kE305] (ksp [(192, 200, 7, 0, 7, 0)]) kE307 [kC307_0, kC307_1, kC307_2, kC307_3, kC307_4] 30000 (some kC307_4) = true := by decide +kernel
theorem kok307 : aOK kS krf kB kE307 := aOK_of (kal1 kok43 (kal1 kok89 (kal1 kok305 kal0))) (kcl1 ks307_0 (kcl1 ks307_1 (kcl1 ks307_2 (kcl1 ks307_3 (kcl1 ks307_4 kcl0))))) ks307
/-- ColdShodModel.triesWay(IIIII)V -/
def kE308 : aE := (192, 48, ([kvB 0 7, kvB 0 7, kvB 0 7], [], 0, [kvR 102, kvI 0, kvI 1, kvI 2, kvN 252, kvN 5, none, none], []), ([], none), ([], [], none, ([], [])), kvW63)
def kC308_0 : aC := (([kvB 0 7, kvB 0 7, kvB 0 7, kvB 0 1, kvB 0 5], [], 16, [kvR 102, kvI 0, kvI 1, kvI 2, kvN 252, kvN 5, kvI 3, kvI 4], []), ([], []), (337, [(-1, 4)]))
def kC308_1 : aC := (([kvB 0 7, kvB 0 7, kvB 0 7, kvB 0 12], [], 141, [kvR 102, kvI 0, kvI 1, kvI 2, kvN 252, kvN 5, kvI 3, none], []), ([], []), (141, [(-11, 3)]))
def kC308_2 : aC := (([kvB 0 7, kvB 0 7, kvB 0 7, kvB 0 11, (.negSucc 0, .ofNat 7), kvB 1 12], [(102, 8, .inl (5, .ofNat 0))], 195, [kvR 102, kvI 0, kvI 1, kvI 2, kvN 252, kvN 5, kvI 3, kvI 4], []), ([], []), (139, [(-11, 3), (-1, 4)]))
def kC308_3 : aC := (([kvB 0 7, kvB 0 7, kvB 0 7, (.negSucc 0, .ofNat 2147483647)], [(102, 29, .inl (3, .ofNat 0))], 91, [kvR 102, kvI 0, kvI 1, kvI 2, kvN 252, kvN 5, kvN 1, kvN 5], []), ([], []), (166, []))
def kC308_4 : aC := (([kvB 0 7, kvB 0 7, kvB 0 7, kvB 0 5, (.negSucc 0, .ofNat 99)], [(102, 29, .inl (4, .ofNat 0)), (102, 30, .inr (.ofNat 5))], 110, [kvR 102, kvI 0, kvI 1, kvI 2, kvN 252, kvN 5, kvN 1, kvI 3], []), ([], []), (5, [(-1, 3)]))
theorem ks308 : aseg kS krf kB [kE43, kE89, kE306, kE307] (ksp [(192, 200, 7, 0, 7, 0)]) kE308 [kC308_0, kC308_1, kC308_2, kC308_3, kC308_4] 30000 (none) = true := by decide +kernel
theorem ks308_0 : aseg kS krf kB [kE43, kE89, kE306, kE307] (ksp [(192, 200, 7, 0, 7, 0)]) kE308 [kC308_0, kC308_1, kC308_2, kC308_3, kC308_4] 30000 (some kC308_0) = true := by decide +kernel
theorem ks308_1 : aseg kS krf kB [kE43, kE89, kE306, kE307] (ksp [(192, 200, 7, 0, 7, 0)]) kE308 [kC308_0, kC308_1, kC308_2, kC308_3, kC308_4] 30000 (some kC308_1) = true := by decide +kernel
theorem ks308_2 : aseg kS krf kB [kE43, kE89, kE306, kE307] (ksp [(192, 200, 7, 0, 7, 0)]) kE308 [kC308_0, kC308_1, kC308_2, kC308_3, kC308_4] 30000 (some kC308_2) = true := by decide +kernel
theorem ks308_3 : aseg kS krf kB [kE43, kE89, kE306, kE307] (ksp [(192, 200, 7, 0, 7, 0)]) kE308 [kC308_0, kC308_1, kC308_2, kC308_3, kC308_4] 30000 (some kC308_3) = true := by decide +kernel
theorem ks308_4 : aseg kS krf kB [kE43, kE89, kE306, kE307] (ksp [(192, 200, 7, 0, 7, 0)]) kE308 [kC308_0, kC308_1, kC308_2, kC308_3, kC308_4] 30000 (some kC308_4) = true := by decide +kernel
theorem kok308 : aOK kS krf kB kE308 := aOK_of (kal1 kok43 (kal1 kok89 (kal1 kok306 (kal1 kok307 kal0)))) (kcl1 ks308_0 (kcl1 ks308_1 (kcl1 ks308_2 (kcl1 ks308_3 (kcl1 ks308_4 kcl0))))) ks308
/-- ColdShodModel.triesWay(IIIII)V -/
def kE309 : aE := (192, 47, ([kvB 0 7, kvB 0 7, kvB 0 7], [], 0, [kvR 102, kvI 0, kvI 1, kvI 2, kvN 251, kvN 6, none, none], []), ([], none), ([], [], none, ([], [])), kvW62)
def kC309_0 : aC := (([kvB 0 7, kvB 0 7, kvB 0 7, kvB 0 1, kvB 0 6], [], 16, [kvR 102, kvI 0, kvI 1, kvI 2, kvN 251, kvN 6, kvI 3, kvI 4], []), ([], []), (338, [(-1, 4)]))
def kC309_1 : aC := (([kvB 0 7, kvB 0 7, kvB 0 7, kvB 0 12], [], 141, [kvR 102, kvI 0, kvI 1, kvI 2, kvN 251, kvN 6, kvI 3, none], []), ([], []), (141, [(-11, 3)]))
def kC309_2 : aC := (([kvB 0 7, kvB 0 7, kvB 0 7, kvB 0 11, (.negSucc 0, .ofNat 7), kvB 1 12], [(102, 8, .inl (5, .ofNat 0))], 195, [kvR 102, kvI 0, kvI 1, kvI 2, kvN 251, kvN 6, kvI 3, kvI 4], []), ([], []), (139, [(-11, 3), (-1, 4)]))
def kC309_3 : aC := (([kvB 0 7, kvB 0 7, kvB 0 7, (.negSucc 0, .ofNat 2147483647)], [(102, 29, .inl (3, .ofNat 0))], 91, [kvR 102, kvI 0, kvI 1, kvI 2, kvN 251, kvN 6, kvN 1, kvN 6], []), ([], []), (166, []))
def kC309_4 : aC := (([kvB 0 7, kvB 0 7, kvB 0 7, kvB 0 6, (.negSucc 0, .ofNat 99)], [(102, 29, .inl (4, .ofNat 0)), (102, 30, .inr (.ofNat 6))], 110, [kvR 102, kvI 0, kvI 1, kvI 2, kvN 251, kvN 6, kvN 1, kvI 3], []), ([], []), (6, [(-1, 3)]))
theorem ks309 : aseg kS krf kB [kE43, kE89, kE305] (ksp [(192, 200, 7, 0, 7, 0)]) kE309 [kC309_0, kC309_1, kC309_2, kC309_3, kC309_4] 30000 (none) = true := by decide +kernel
theorem ks309_0 : aseg kS krf kB [kE43, kE89, kE305] (ksp [(192, 200, 7, 0, 7, 0)]) kE309 [kC309_0, kC309_1, kC309_2, kC309_3, kC309_4] 30000 (some kC309_0) = true := by decide +kernel
theorem ks309_1 : aseg kS krf kB [kE43, kE89, kE305] (ksp [(192, 200, 7, 0, 7, 0)]) kE309 [kC309_0, kC309_1, kC309_2, kC309_3, kC309_4] 30000 (some kC309_1) = true := by decide +kernel
theorem ks309_2 : aseg kS krf kB [kE43, kE89, kE305] (ksp [(192, 200, 7, 0, 7, 0)]) kE309 [kC309_0, kC309_1, kC309_2, kC309_3, kC309_4] 30000 (some kC309_2) = true := by decide +kernel
theorem ks309_3 : aseg kS krf kB [kE43, kE89, kE305] (ksp [(192, 200, 7, 0, 7, 0)]) kE309 [kC309_0, kC309_1, kC309_2, kC309_3, kC309_4] 30000 (some kC309_3) = true := by decide +kernel
theorem ks309_4 : aseg kS krf kB [kE43, kE89, kE305] (ksp [(192, 200, 7, 0, 7, 0)]) kE309 [kC309_0, kC309_1, kC309_2, kC309_3, kC309_4] 30000 (some kC309_4) = true := by decide +kernel
theorem kok309 : aOK kS krf kB kE309 := aOK_of (kal1 kok43 (kal1 kok89 (kal1 kok305 kal0))) (kcl1 ks309_0 (kcl1 ks309_1 (kcl1 ks309_2 (kcl1 ks309_3 (kcl1 ks309_4 kcl0))))) ks309
/-- ColdShodModel.triesWay(IIIII)V -/
def kE310 : aE := (192, 48, ([kvB 0 7, kvB 0 7, kvB 0 7], [], 0, [kvR 102, kvI 0, kvI 1, kvI 2, kvN 250, kvN 5, none, none], []), ([], none), ([], [], none, ([], [])), kvW63)
def kC310_0 : aC := (([kvB 0 7, kvB 0 7, kvB 0 7, kvB 0 1, kvB 0 5], [], 16, [kvR 102, kvI 0, kvI 1, kvI 2, kvN 250, kvN 5, kvI 3, kvI 4], []), ([], []), (337, [(-1, 4)]))
def kC310_1 : aC := (([kvB 0 7, kvB 0 7, kvB 0 7, kvB 0 12], [], 141, [kvR 102, kvI 0, kvI 1, kvI 2, kvN 250, kvN 5, kvI 3, none], []), ([], []), (141, [(-11, 3)]))
def kC310_2 : aC := (([kvB 0 7, kvB 0 7, kvB 0 7, kvB 0 11, (.negSucc 0, .ofNat 7), kvB 1 12], [(102, 8, .inl (5, .ofNat 0))], 195, [kvR 102, kvI 0, kvI 1, kvI 2, kvN 250, kvN 5, kvI 3, kvI 4], []), ([], []), (139, [(-11, 3), (-1, 4)]))
def kC310_3 : aC := (([kvB 0 7, kvB 0 7, kvB 0 7, (.negSucc 0, .ofNat 2147483647)], [(102, 29, .inl (3, .ofNat 0))], 91, [kvR 102, kvI 0, kvI 1, kvI 2, kvN 250, kvN 5, kvN 1, kvN 5], []), ([], []), (166, []))
def kC310_4 : aC := (([kvB 0 7, kvB 0 7, kvB 0 7, kvB 0 5, (.negSucc 0, .ofNat 99)], [(102, 29, .inl (4, .ofNat 0)), (102, 30, .inr (.ofNat 5))], 110, [kvR 102, kvI 0, kvI 1, kvI 2, kvN 250, kvN 5, kvN 1, kvI 3], []), ([], []), (5, [(-1, 3)]))
theorem ks310 : aseg kS krf kB [kE43, kE89, kE306, kE309] (ksp [(192, 200, 7, 0, 7, 0)]) kE310 [kC310_0, kC310_1, kC310_2, kC310_3, kC310_4] 30000 (none) = true := by decide +kernel
theorem ks310_0 : aseg kS krf kB [kE43, kE89, kE306, kE309] (ksp [(192, 200, 7, 0, 7, 0)]) kE310 [kC310_0, kC310_1, kC310_2, kC310_3, kC310_4] 30000 (some kC310_0) = true := by decide +kernel
theorem ks310_1 : aseg kS krf kB [kE43, kE89, kE306, kE309] (ksp [(192, 200, 7, 0, 7, 0)]) kE310 [kC310_0, kC310_1, kC310_2, kC310_3, kC310_4] 30000 (some kC310_1) = true := by decide +kernel
theorem ks310_2 : aseg kS krf kB [kE43, kE89, kE306, kE309] (ksp [(192, 200, 7, 0, 7, 0)]) kE310 [kC310_0, kC310_1, kC310_2, kC310_3, kC310_4] 30000 (some kC310_2) = true := by decide +kernel
theorem ks310_3 : aseg kS krf kB [kE43, kE89, kE306, kE309] (ksp [(192, 200, 7, 0, 7, 0)]) kE310 [kC310_0, kC310_1, kC310_2, kC310_3, kC310_4] 30000 (some kC310_3) = true := by decide +kernel
theorem ks310_4 : aseg kS krf kB [kE43, kE89, kE306, kE309] (ksp [(192, 200, 7, 0, 7, 0)]) kE310 [kC310_0, kC310_1, kC310_2, kC310_3, kC310_4] 30000 (some kC310_4) = true := by decide +kernel
theorem kok310 : aOK kS krf kB kE310 := aOK_of (kal1 kok43 (kal1 kok89 (kal1 kok306 (kal1 kok309 kal0)))) (kcl1 ks310_0 (kcl1 ks310_1 (kcl1 ks310_2 (kcl1 ks310_3 (kcl1 ks310_4 kcl0))))) ks310
/-- ColdShodModel.triesWay(IIIII)V -/
def kE311 : aE := (192, 48, ([kvB 0 7, kvB 0 7, kvB 0 7], [], 0, [kvR 102, kvI 0, kvI 1, kvI 2, kvN 249, kvN 5, none, none], []), ([], none), ([], [], none, ([], [])), kvW63)
def kC311_0 : aC := (([kvB 0 7, kvB 0 7, kvB 0 7, kvB 0 1, kvB 0 5], [], 16, [kvR 102, kvI 0, kvI 1, kvI 2, kvN 249, kvN 5, kvI 3, kvI 4], []), ([], []), (337, [(-1, 4)]))
def kC311_1 : aC := (([kvB 0 7, kvB 0 7, kvB 0 7, kvB 0 12], [], 141, [kvR 102, kvI 0, kvI 1, kvI 2, kvN 249, kvN 5, kvI 3, none], []), ([], []), (141, [(-11, 3)]))
def kC311_2 : aC := (([kvB 0 7, kvB 0 7, kvB 0 7, kvB 0 11, (.negSucc 0, .ofNat 7), kvB 1 12], [(102, 8, .inl (5, .ofNat 0))], 195, [kvR 102, kvI 0, kvI 1, kvI 2, kvN 249, kvN 5, kvI 3, kvI 4], []), ([], []), (139, [(-11, 3), (-1, 4)]))
def kC311_3 : aC := (([kvB 0 7, kvB 0 7, kvB 0 7, (.negSucc 0, .ofNat 2147483647)], [(102, 29, .inl (3, .ofNat 0))], 91, [kvR 102, kvI 0, kvI 1, kvI 2, kvN 249, kvN 5, kvN 1, kvN 5], []), ([], []), (166, []))
def kC311_4 : aC := (([kvB 0 7, kvB 0 7, kvB 0 7, kvB 0 5, (.negSucc 0, .ofNat 99)], [(102, 29, .inl (4, .ofNat 0)), (102, 30, .inr (.ofNat 5))], 110, [kvR 102, kvI 0, kvI 1, kvI 2, kvN 249, kvN 5, kvN 1, kvI 3], []), ([], []), (5, [(-1, 3)]))
theorem ks311 : aseg kS krf kB [kE43, kE89, kE307, kE309] (ksp [(192, 200, 7, 0, 7, 0)]) kE311 [kC311_0, kC311_1, kC311_2, kC311_3, kC311_4] 30000 (none) = true := by decide +kernel
theorem ks311_0 : aseg kS krf kB [kE43, kE89, kE307, kE309] (ksp [(192, 200, 7, 0, 7, 0)]) kE311 [kC311_0, kC311_1, kC311_2, kC311_3, kC311_4] 30000 (some kC311_0) = true := by decide +kernel
theorem ks311_1 : aseg kS krf kB [kE43, kE89, kE307, kE309] (ksp [(192, 200, 7, 0, 7, 0)]) kE311 [kC311_0, kC311_1, kC311_2, kC311_3, kC311_4] 30000 (some kC311_1) = true := by decide +kernel
theorem ks311_2 : aseg kS krf kB [kE43, kE89, kE307, kE309] (ksp [(192, 200, 7, 0, 7, 0)]) kE311 [kC311_0, kC311_1, kC311_2, kC311_3, kC311_4] 30000 (some kC311_2) = true := by decide +kernel
theorem ks311_3 : aseg kS krf kB [kE43, kE89, kE307, kE309] (ksp [(192, 200, 7, 0, 7, 0)]) kE311 [kC311_0, kC311_1, kC311_2, kC311_3, kC311_4] 30000 (some kC311_3) = true := by decide +kernel
theorem ks311_4 : aseg kS krf kB [kE43, kE89, kE307, kE309] (ksp [(192, 200, 7, 0, 7, 0)]) kE311 [kC311_0, kC311_1, kC311_2, kC311_3, kC311_4] 30000 (some kC311_4) = true := by decide +kernel
theorem kok311 : aOK kS krf kB kE311 := aOK_of (kal1 kok43 (kal1 kok89 (kal1 kok307 (kal1 kok309 kal0)))) (kcl1 ks311_0 (kcl1 ks311_1 (kcl1 ks311_2 (kcl1 ks311_3 (kcl1 ks311_4 kcl0))))) ks311
/-- ColdShodModel.triesWay(IIIII)V -/
def kE312 : aE := (192, 49, ([kvB 0 7, kvB 0 7, kvB 0 7], [], 0, [kvR 102, kvI 0, kvI 1, kvI 2, kvN 248, kvN 4, none, none], []), ([], none), ([], [], none, ([], [])), kvW64)
def kC312_0 : aC := (([kvB 0 7, kvB 0 7, kvB 0 7, kvB 0 1, kvB 0 4], [], 16, [kvR 102, kvI 0, kvI 1, kvI 2, kvN 248, kvN 4, kvI 3, kvI 4], []), ([], []), (336, [(-1, 4)]))
def kC312_1 : aC := (([kvB 0 7, kvB 0 7, kvB 0 7, kvB 0 12], [], 141, [kvR 102, kvI 0, kvI 1, kvI 2, kvN 248, kvN 4, kvI 3, none], []), ([], []), (141, [(-11, 3)]))
def kC312_2 : aC := (([kvB 0 7, kvB 0 7, kvB 0 7, kvB 0 11, (.negSucc 0, .ofNat 7), kvB 1 12], [(102, 8, .inl (5, .ofNat 0))], 195, [kvR 102, kvI 0, kvI 1, kvI 2, kvN 248, kvN 4, kvI 3, kvI 4], []), ([], []), (139, [(-11, 3), (-1, 4)]))
def kC312_3 : aC := (([kvB 0 7, kvB 0 7, kvB 0 7, (.negSucc 0, .ofNat 2147483647)], [(102, 29, .inl (3, .ofNat 0))], 91, [kvR 102, kvI 0, kvI 1, kvI 2, kvN 248, kvN 4, kvN 1, kvN 4], []), ([], []), (166, []))
def kC312_4 : aC := (([kvB 0 7, kvB 0 7, kvB 0 7, kvB 0 4, (.negSucc 0, .ofNat 99)], [(102, 29, .inl (4, .ofNat 0)), (102, 30, .inr (.ofNat 4))], 110, [kvR 102, kvI 0, kvI 1, kvI 2, kvN 248, kvN 4, kvN 1, kvI 3], []), ([], []), (4, [(-1, 3)]))
theorem ks312 : aseg kS krf kB [kE43, kE89, kE308, kE310, kE311] (ksp [(192, 200, 7, 0, 7, 0)]) kE312 [kC312_0, kC312_1, kC312_2, kC312_3, kC312_4] 30000 (none) = true := by decide +kernel
theorem ks312_0 : aseg kS krf kB [kE43, kE89, kE308, kE310, kE311] (ksp [(192, 200, 7, 0, 7, 0)]) kE312 [kC312_0, kC312_1, kC312_2, kC312_3, kC312_4] 30000 (some kC312_0) = true := by decide +kernel
theorem ks312_1 : aseg kS krf kB [kE43, kE89, kE308, kE310, kE311] (ksp [(192, 200, 7, 0, 7, 0)]) kE312 [kC312_0, kC312_1, kC312_2, kC312_3, kC312_4] 30000 (some kC312_1) = true := by decide +kernel
theorem ks312_2 : aseg kS krf kB [kE43, kE89, kE308, kE310, kE311] (ksp [(192, 200, 7, 0, 7, 0)]) kE312 [kC312_0, kC312_1, kC312_2, kC312_3, kC312_4] 30000 (some kC312_2) = true := by decide +kernel
theorem ks312_3 : aseg kS krf kB [kE43, kE89, kE308, kE310, kE311] (ksp [(192, 200, 7, 0, 7, 0)]) kE312 [kC312_0, kC312_1, kC312_2, kC312_3, kC312_4] 30000 (some kC312_3) = true := by decide +kernel
theorem ks312_4 : aseg kS krf kB [kE43, kE89, kE308, kE310, kE311] (ksp [(192, 200, 7, 0, 7, 0)]) kE312 [kC312_0, kC312_1, kC312_2, kC312_3, kC312_4] 30000 (some kC312_4) = true := by decide +kernel
theorem kok312 : aOK kS krf kB kE312 := aOK_of (kal1 kok43 (kal1 kok89 (kal1 kok308 (kal1 kok310 (kal1 kok311 kal0))))) (kcl1 ks312_0 (kcl1 ks312_1 (kcl1 ks312_2 (kcl1 ks312_3 (kcl1 ks312_4 kcl0))))) ks312
/-- ColdShodModel.triesWay(IIIII)V -/
def kE313 : aE := (192, 47, ([kvB 0 7, kvB 0 7, kvB 0 7], [], 0, [kvR 102, kvI 0, kvI 1, kvI 2, kvN 247, kvN 6, none, none], []), ([], none), ([], [], none, ([], [])), kvW62)
def kC313_0 : aC := (([kvB 0 7, kvB 0 7, kvB 0 7, kvB 0 1, kvB 0 6], [], 16, [kvR 102, kvI 0, kvI 1, kvI 2, kvN 247, kvN 6, kvI 3, kvI 4], []), ([], []), (338, [(-1, 4)]))
def kC313_1 : aC := (([kvB 0 7, kvB 0 7, kvB 0 7, kvB 0 12], [], 141, [kvR 102, kvI 0, kvI 1, kvI 2, kvN 247, kvN 6, kvI 3, none], []), ([], []), (141, [(-11, 3)]))
def kC313_2 : aC := (([kvB 0 7, kvB 0 7, kvB 0 7, kvB 0 11, (.negSucc 0, .ofNat 7), kvB 1 12], [(102, 8, .inl (5, .ofNat 0))], 195, [kvR 102, kvI 0, kvI 1, kvI 2, kvN 247, kvN 6, kvI 3, kvI 4], []), ([], []), (139, [(-11, 3), (-1, 4)]))
def kC313_3 : aC := (([kvB 0 7, kvB 0 7, kvB 0 7, (.negSucc 0, .ofNat 2147483647)], [(102, 29, .inl (3, .ofNat 0))], 91, [kvR 102, kvI 0, kvI 1, kvI 2, kvN 247, kvN 6, kvN 1, kvN 6], []), ([], []), (166, []))
def kC313_4 : aC := (([kvB 0 7, kvB 0 7, kvB 0 7, kvB 0 6, (.negSucc 0, .ofNat 99)], [(102, 29, .inl (4, .ofNat 0)), (102, 30, .inr (.ofNat 6))], 110, [kvR 102, kvI 0, kvI 1, kvI 2, kvN 247, kvN 6, kvN 1, kvI 3], []), ([], []), (6, [(-1, 3)]))
theorem ks313 : aseg kS krf kB [kE43, kE89, kE305] (ksp [(192, 200, 7, 0, 7, 0)]) kE313 [kC313_0, kC313_1, kC313_2, kC313_3, kC313_4] 30000 (none) = true := by decide +kernel
theorem ks313_0 : aseg kS krf kB [kE43, kE89, kE305] (ksp [(192, 200, 7, 0, 7, 0)]) kE313 [kC313_0, kC313_1, kC313_2, kC313_3, kC313_4] 30000 (some kC313_0) = true := by decide +kernel
theorem ks313_1 : aseg kS krf kB [kE43, kE89, kE305] (ksp [(192, 200, 7, 0, 7, 0)]) kE313 [kC313_0, kC313_1, kC313_2, kC313_3, kC313_4] 30000 (some kC313_1) = true := by decide +kernel
theorem ks313_2 : aseg kS krf kB [kE43, kE89, kE305] (ksp [(192, 200, 7, 0, 7, 0)]) kE313 [kC313_0, kC313_1, kC313_2, kC313_3, kC313_4] 30000 (some kC313_2) = true := by decide +kernel
theorem ks313_3 : aseg kS krf kB [kE43, kE89, kE305] (ksp [(192, 200, 7, 0, 7, 0)]) kE313 [kC313_0, kC313_1, kC313_2, kC313_3, kC313_4] 30000 (some kC313_3) = true := by decide +kernel
theorem ks313_4 : aseg kS krf kB [kE43, kE89, kE305] (ksp [(192, 200, 7, 0, 7, 0)]) kE313 [kC313_0, kC313_1, kC313_2, kC313_3, kC313_4] 30000 (some kC313_4) = true := by decide +kernel
theorem kok313 : aOK kS krf kB kE313 := aOK_of (kal1 kok43 (kal1 kok89 (kal1 kok305 kal0))) (kcl1 ks313_0 (kcl1 ks313_1 (kcl1 ks313_2 (kcl1 ks313_3 (kcl1 ks313_4 kcl0))))) ks313
/-- ColdShodModel.triesWay(IIIII)V -/
def kE314 : aE := (192, 48, ([kvB 0 7, kvB 0 7, kvB 0 7], [], 0, [kvR 102, kvI 0, kvI 1, kvI 2, kvN 246, kvN 5, none, none], []), ([], none), ([], [], none, ([], [])), kvW63)
def kC314_0 : aC := (([kvB 0 7, kvB 0 7, kvB 0 7, kvB 0 1, kvB 0 5], [], 16, [kvR 102, kvI 0, kvI 1, kvI 2, kvN 246, kvN 5, kvI 3, kvI 4], []), ([], []), (337, [(-1, 4)]))
def kC314_1 : aC := (([kvB 0 7, kvB 0 7, kvB 0 7, kvB 0 12], [], 141, [kvR 102, kvI 0, kvI 1, kvI 2, kvN 246, kvN 5, kvI 3, none], []), ([], []), (141, [(-11, 3)]))
def kC314_2 : aC := (([kvB 0 7, kvB 0 7, kvB 0 7, kvB 0 11, (.negSucc 0, .ofNat 7), kvB 1 12], [(102, 8, .inl (5, .ofNat 0))], 195, [kvR 102, kvI 0, kvI 1, kvI 2, kvN 246, kvN 5, kvI 3, kvI 4], []), ([], []), (139, [(-11, 3), (-1, 4)]))
def kC314_3 : aC := (([kvB 0 7, kvB 0 7, kvB 0 7, (.negSucc 0, .ofNat 2147483647)], [(102, 29, .inl (3, .ofNat 0))], 91, [kvR 102, kvI 0, kvI 1, kvI 2, kvN 246, kvN 5, kvN 1, kvN 5], []), ([], []), (166, []))
def kC314_4 : aC := (([kvB 0 7, kvB 0 7, kvB 0 7, kvB 0 5, (.negSucc 0, .ofNat 99)], [(102, 29, .inl (4, .ofNat 0)), (102, 30, .inr (.ofNat 5))], 110, [kvR 102, kvI 0, kvI 1, kvI 2, kvN 246, kvN 5, kvN 1, kvI 3], []), ([], []), (5, [(-1, 3)]))
theorem ks314 : aseg kS krf kB [kE43, kE89, kE306, kE313] (ksp [(192, 200, 7, 0, 7, 0)]) kE314 [kC314_0, kC314_1, kC314_2, kC314_3, kC314_4] 30000 (none) = true := by decide +kernel
theorem ks314_0 : aseg kS krf kB [kE43, kE89, kE306, kE313] (ksp [(192, 200, 7, 0, 7, 0)]) kE314 [kC314_0, kC314_1, kC314_2, kC314_3, kC314_4] 30000 (some kC314_0) = true := by decide +kernel
theorem ks314_1 : aseg kS krf kB [kE43, kE89, kE306, kE313] (ksp [(192, 200, 7, 0, 7, 0)]) kE314 [kC314_0, kC314_1, kC314_2, kC314_3, kC314_4] 30000 (some kC314_1) = true := by decide +kernel
theorem ks314_2 : aseg kS krf kB [kE43, kE89, kE306, kE313] (ksp [(192, 200, 7, 0, 7, 0)]) kE314 [kC314_0, kC314_1, kC314_2, kC314_3, kC314_4] 30000 (some kC314_2) = true := by decide +kernel
theorem ks314_3 : aseg kS krf kB [kE43, kE89, kE306, kE313] (ksp [(192, 200, 7, 0, 7, 0)]) kE314 [kC314_0, kC314_1, kC314_2, kC314_3, kC314_4] 30000 (some kC314_3) = true := by decide +kernel
theorem ks314_4 : aseg kS krf kB [kE43, kE89, kE306, kE313] (ksp [(192, 200, 7, 0, 7, 0)]) kE314 [kC314_0, kC314_1, kC314_2, kC314_3, kC314_4] 30000 (some kC314_4) = true := by decide +kernel
theorem kok314 : aOK kS krf kB kE314 := aOK_of (kal1 kok43 (kal1 kok89 (kal1 kok306 (kal1 kok313 kal0)))) (kcl1 ks314_0 (kcl1 ks314_1 (kcl1 ks314_2 (kcl1 ks314_3 (kcl1 ks314_4 kcl0))))) ks314
/-- ColdShodModel.triesWay(IIIII)V -/
def kE315 : aE := (192, 48, ([kvB 0 7, kvB 0 7, kvB 0 7], [], 0, [kvR 102, kvI 0, kvI 1, kvI 2, kvN 245, kvN 5, none, none], []), ([], none), ([], [], none, ([], [])), kvW63)
def kC315_0 : aC := (([kvB 0 7, kvB 0 7, kvB 0 7, kvB 0 1, kvB 0 5], [], 16, [kvR 102, kvI 0, kvI 1, kvI 2, kvN 245, kvN 5, kvI 3, kvI 4], []), ([], []), (337, [(-1, 4)]))
def kC315_1 : aC := (([kvB 0 7, kvB 0 7, kvB 0 7, kvB 0 12], [], 141, [kvR 102, kvI 0, kvI 1, kvI 2, kvN 245, kvN 5, kvI 3, none], []), ([], []), (141, [(-11, 3)]))
def kC315_2 : aC := (([kvB 0 7, kvB 0 7, kvB 0 7, kvB 0 11, (.negSucc 0, .ofNat 7), kvB 1 12], [(102, 8, .inl (5, .ofNat 0))], 195, [kvR 102, kvI 0, kvI 1, kvI 2, kvN 245, kvN 5, kvI 3, kvI 4], []), ([], []), (139, [(-11, 3), (-1, 4)]))
def kC315_3 : aC := (([kvB 0 7, kvB 0 7, kvB 0 7, (.negSucc 0, .ofNat 2147483647)], [(102, 29, .inl (3, .ofNat 0))], 91, [kvR 102, kvI 0, kvI 1, kvI 2, kvN 245, kvN 5, kvN 1, kvN 5], []), ([], []), (166, []))
def kC315_4 : aC := (([kvB 0 7, kvB 0 7, kvB 0 7, kvB 0 5, (.negSucc 0, .ofNat 99)], [(102, 29, .inl (4, .ofNat 0)), (102, 30, .inr (.ofNat 5))], 110, [kvR 102, kvI 0, kvI 1, kvI 2, kvN 245, kvN 5, kvN 1, kvI 3], []), ([], []), (5, [(-1, 3)]))
theorem ks315 : aseg kS krf kB [kE43, kE89, kE307, kE313] (ksp [(192, 200, 7, 0, 7, 0)]) kE315 [kC315_0, kC315_1, kC315_2, kC315_3, kC315_4] 30000 (none) = true := by decide +kernel
theorem ks315_0 : aseg kS krf kB [kE43, kE89, kE307, kE313] (ksp [(192, 200, 7, 0, 7, 0)]) kE315 [kC315_0, kC315_1, kC315_2, kC315_3, kC315_4] 30000 (some kC315_0) = true := by decide +kernel
theorem ks315_1 : aseg kS krf kB [kE43, kE89, kE307, kE313] (ksp [(192, 200, 7, 0, 7, 0)]) kE315 [kC315_0, kC315_1, kC315_2, kC315_3, kC315_4] 30000 (some kC315_1) = true := by decide +kernel
theorem ks315_2 : aseg kS krf kB [kE43, kE89, kE307, kE313] (ksp [(192, 200, 7, 0, 7, 0)]) kE315 [kC315_0, kC315_1, kC315_2, kC315_3, kC315_4] 30000 (some kC315_2) = true := by decide +kernel
theorem ks315_3 : aseg kS krf kB [kE43, kE89, kE307, kE313] (ksp [(192, 200, 7, 0, 7, 0)]) kE315 [kC315_0, kC315_1, kC315_2, kC315_3, kC315_4] 30000 (some kC315_3) = true := by decide +kernel
theorem ks315_4 : aseg kS krf kB [kE43, kE89, kE307, kE313] (ksp [(192, 200, 7, 0, 7, 0)]) kE315 [kC315_0, kC315_1, kC315_2, kC315_3, kC315_4] 30000 (some kC315_4) = true := by decide +kernel
theorem kok315 : aOK kS krf kB kE315 := aOK_of (kal1 kok43 (kal1 kok89 (kal1 kok307 (kal1 kok313 kal0)))) (kcl1 ks315_0 (kcl1 ks315_1 (kcl1 ks315_2 (kcl1 ks315_3 (kcl1 ks315_4 kcl0))))) ks315
/-- ColdShodModel.triesWay(IIIII)V -/
def kE316 : aE := (192, 49, ([kvB 0 7, kvB 0 7, kvB 0 7], [], 0, [kvR 102, kvI 0, kvI 1, kvI 2, kvN 244, kvN 4, none, none], []), ([], none), ([], [], none, ([], [])), kvW64)
def kC316_0 : aC := (([kvB 0 7, kvB 0 7, kvB 0 7, kvB 0 1, kvB 0 4], [], 16, [kvR 102, kvI 0, kvI 1, kvI 2, kvN 244, kvN 4, kvI 3, kvI 4], []), ([], []), (336, [(-1, 4)]))
def kC316_1 : aC := (([kvB 0 7, kvB 0 7, kvB 0 7, kvB 0 12], [], 141, [kvR 102, kvI 0, kvI 1, kvI 2, kvN 244, kvN 4, kvI 3, none], []), ([], []), (141, [(-11, 3)]))
def kC316_2 : aC := (([kvB 0 7, kvB 0 7, kvB 0 7, kvB 0 11, (.negSucc 0, .ofNat 7), kvB 1 12], [(102, 8, .inl (5, .ofNat 0))], 195, [kvR 102, kvI 0, kvI 1, kvI 2, kvN 244, kvN 4, kvI 3, kvI 4], []), ([], []), (139, [(-11, 3), (-1, 4)]))
def kC316_3 : aC := (([kvB 0 7, kvB 0 7, kvB 0 7, (.negSucc 0, .ofNat 2147483647)], [(102, 29, .inl (3, .ofNat 0))], 91, [kvR 102, kvI 0, kvI 1, kvI 2, kvN 244, kvN 4, kvN 1, kvN 4], []), ([], []), (166, []))
def kC316_4 : aC := (([kvB 0 7, kvB 0 7, kvB 0 7, kvB 0 4, (.negSucc 0, .ofNat 99)], [(102, 29, .inl (4, .ofNat 0)), (102, 30, .inr (.ofNat 4))], 110, [kvR 102, kvI 0, kvI 1, kvI 2, kvN 244, kvN 4, kvN 1, kvI 3], []), ([], []), (4, [(-1, 3)]))
theorem ks316 : aseg kS krf kB [kE43, kE89, kE308, kE314, kE315] (ksp [(192, 200, 7, 0, 7, 0)]) kE316 [kC316_0, kC316_1, kC316_2, kC316_3, kC316_4] 30000 (none) = true := by decide +kernel
theorem ks316_0 : aseg kS krf kB [kE43, kE89, kE308, kE314, kE315] (ksp [(192, 200, 7, 0, 7, 0)]) kE316 [kC316_0, kC316_1, kC316_2, kC316_3, kC316_4] 30000 (some kC316_0) = true := by decide +kernel
theorem ks316_1 : aseg kS krf kB [kE43, kE89, kE308, kE314, kE315] (ksp [(192, 200, 7, 0, 7, 0)]) kE316 [kC316_0, kC316_1, kC316_2, kC316_3, kC316_4] 30000 (some kC316_1) = true := by decide +kernel
theorem ks316_2 : aseg kS krf kB [kE43, kE89, kE308, kE314, kE315] (ksp [(192, 200, 7, 0, 7, 0)]) kE316 [kC316_0, kC316_1, kC316_2, kC316_3, kC316_4] 30000 (some kC316_2) = true := by decide +kernel
theorem ks316_3 : aseg kS krf kB [kE43, kE89, kE308, kE314, kE315] (ksp [(192, 200, 7, 0, 7, 0)]) kE316 [kC316_0, kC316_1, kC316_2, kC316_3, kC316_4] 30000 (some kC316_3) = true := by decide +kernel
theorem ks316_4 : aseg kS krf kB [kE43, kE89, kE308, kE314, kE315] (ksp [(192, 200, 7, 0, 7, 0)]) kE316 [kC316_0, kC316_1, kC316_2, kC316_3, kC316_4] 30000 (some kC316_4) = true := by decide +kernel
theorem kok316 : aOK kS krf kB kE316 := aOK_of (kal1 kok43 (kal1 kok89 (kal1 kok308 (kal1 kok314 (kal1 kok315 kal0))))) (kcl1 ks316_0 (kcl1 ks316_1 (kcl1 ks316_2 (kcl1 ks316_3 (kcl1 ks316_4 kcl0))))) ks316
/-- ColdShodModel.triesWay(IIIII)V -/
def kE317 : aE := (192, 48, ([kvB 0 7, kvB 0 7, kvB 0 7], [], 0, [kvR 102, kvI 0, kvI 1, kvI 2, kvN 243, kvN 5, none, none], []), ([], none), ([], [], none, ([], [])), kvW63)
def kC317_0 : aC := (([kvB 0 7, kvB 0 7, kvB 0 7, kvB 0 1, kvB 0 5], [], 16, [kvR 102, kvI 0, kvI 1, kvI 2, kvN 243, kvN 5, kvI 3, kvI 4], []), ([], []), (337, [(-1, 4)]))
def kC317_1 : aC := (([kvB 0 7, kvB 0 7, kvB 0 7, kvB 0 12], [], 141, [kvR 102, kvI 0, kvI 1, kvI 2, kvN 243, kvN 5, kvI 3, none], []), ([], []), (141, [(-11, 3)]))
def kC317_2 : aC := (([kvB 0 7, kvB 0 7, kvB 0 7, kvB 0 11, (.negSucc 0, .ofNat 7), kvB 1 12], [(102, 8, .inl (5, .ofNat 0))], 195, [kvR 102, kvI 0, kvI 1, kvI 2, kvN 243, kvN 5, kvI 3, kvI 4], []), ([], []), (139, [(-11, 3), (-1, 4)]))
def kC317_3 : aC := (([kvB 0 7, kvB 0 7, kvB 0 7, (.negSucc 0, .ofNat 2147483647)], [(102, 29, .inl (3, .ofNat 0))], 91, [kvR 102, kvI 0, kvI 1, kvI 2, kvN 243, kvN 5, kvN 1, kvN 5], []), ([], []), (166, []))
def kC317_4 : aC := (([kvB 0 7, kvB 0 7, kvB 0 7, kvB 0 5, (.negSucc 0, .ofNat 99)], [(102, 29, .inl (4, .ofNat 0)), (102, 30, .inr (.ofNat 5))], 110, [kvR 102, kvI 0, kvI 1, kvI 2, kvN 243, kvN 5, kvN 1, kvI 3], []), ([], []), (5, [(-1, 3)]))
theorem ks317 : aseg kS krf kB [kE43, kE89, kE309, kE313] (ksp [(192, 200, 7, 0, 7, 0)]) kE317 [kC317_0, kC317_1, kC317_2, kC317_3, kC317_4] 30000 (none) = true := by decide +kernel
theorem ks317_0 : aseg kS krf kB [kE43, kE89, kE309, kE313] (ksp [(192, 200, 7, 0, 7, 0)]) kE317 [kC317_0, kC317_1, kC317_2, kC317_3, kC317_4] 30000 (some kC317_0) = true := by decide +kernel
theorem ks317_1 : aseg kS krf kB [kE43, kE89, kE309, kE313] (ksp [(192, 200, 7, 0, 7, 0)]) kE317 [kC317_0, kC317_1, kC317_2, kC317_3, kC317_4] 30000 (some kC317_1) = true := by decide +kernel
theorem ks317_2 : aseg kS krf kB [kE43, kE89, kE309, kE313] (ksp [(192, 200, 7, 0, 7, 0)]) kE317 [kC317_0, kC317_1, kC317_2, kC317_3, kC317_4] 30000 (some kC317_2) = true := by decide +kernel
theorem ks317_3 : aseg kS krf kB [kE43, kE89, kE309, kE313] (ksp [(192, 200, 7, 0, 7, 0)]) kE317 [kC317_0, kC317_1, kC317_2, kC317_3, kC317_4] 30000 (some kC317_3) = true := by decide +kernel
theorem ks317_4 : aseg kS krf kB [kE43, kE89, kE309, kE313] (ksp [(192, 200, 7, 0, 7, 0)]) kE317 [kC317_0, kC317_1, kC317_2, kC317_3, kC317_4] 30000 (some kC317_4) = true := by decide +kernel
theorem kok317 : aOK kS krf kB kE317 := aOK_of (kal1 kok43 (kal1 kok89 (kal1 kok309 (kal1 kok313 kal0)))) (kcl1 ks317_0 (kcl1 ks317_1 (kcl1 ks317_2 (kcl1 ks317_3 (kcl1 ks317_4 kcl0))))) ks317
/-- ColdShodModel.triesWay(IIIII)V -/
def kE318 : aE := (192, 49, ([kvB 0 7, kvB 0 7, kvB 0 7], [], 0, [kvR 102, kvI 0, kvI 1, kvI 2, kvN 242, kvN 4, none, none], []), ([], none), ([], [], none, ([], [])), kvW64)
def kC318_0 : aC := (([kvB 0 7, kvB 0 7, kvB 0 7, kvB 0 1, kvB 0 4], [], 16, [kvR 102, kvI 0, kvI 1, kvI 2, kvN 242, kvN 4, kvI 3, kvI 4], []), ([], []), (336, [(-1, 4)]))
def kC318_1 : aC := (([kvB 0 7, kvB 0 7, kvB 0 7, kvB 0 12], [], 141, [kvR 102, kvI 0, kvI 1, kvI 2, kvN 242, kvN 4, kvI 3, none], []), ([], []), (141, [(-11, 3)]))
def kC318_2 : aC := (([kvB 0 7, kvB 0 7, kvB 0 7, kvB 0 11, (.negSucc 0, .ofNat 7), kvB 1 12], [(102, 8, .inl (5, .ofNat 0))], 195, [kvR 102, kvI 0, kvI 1, kvI 2, kvN 242, kvN 4, kvI 3, kvI 4], []), ([], []), (139, [(-11, 3), (-1, 4)]))
def kC318_3 : aC := (([kvB 0 7, kvB 0 7, kvB 0 7, (.negSucc 0, .ofNat 2147483647)], [(102, 29, .inl (3, .ofNat 0))], 91, [kvR 102, kvI 0, kvI 1, kvI 2, kvN 242, kvN 4, kvN 1, kvN 4], []), ([], []), (166, []))
def kC318_4 : aC := (([kvB 0 7, kvB 0 7, kvB 0 7, kvB 0 4, (.negSucc 0, .ofNat 99)], [(102, 29, .inl (4, .ofNat 0)), (102, 30, .inr (.ofNat 4))], 110, [kvR 102, kvI 0, kvI 1, kvI 2, kvN 242, kvN 4, kvN 1, kvI 3], []), ([], []), (4, [(-1, 3)]))
theorem ks318 : aseg kS krf kB [kE43, kE89, kE310, kE314, kE317] (ksp [(192, 200, 7, 0, 7, 0)]) kE318 [kC318_0, kC318_1, kC318_2, kC318_3, kC318_4] 30000 (none) = true := by decide +kernel
theorem ks318_0 : aseg kS krf kB [kE43, kE89, kE310, kE314, kE317] (ksp [(192, 200, 7, 0, 7, 0)]) kE318 [kC318_0, kC318_1, kC318_2, kC318_3, kC318_4] 30000 (some kC318_0) = true := by decide +kernel
theorem ks318_1 : aseg kS krf kB [kE43, kE89, kE310, kE314, kE317] (ksp [(192, 200, 7, 0, 7, 0)]) kE318 [kC318_0, kC318_1, kC318_2, kC318_3, kC318_4] 30000 (some kC318_1) = true := by decide +kernel
theorem ks318_2 : aseg kS krf kB [kE43, kE89, kE310, kE314, kE317] (ksp [(192, 200, 7, 0, 7, 0)]) kE318 [kC318_0, kC318_1, kC318_2, kC318_3, kC318_4] 30000 (some kC318_2) = true := by decide +kernel
theorem ks318_3 : aseg kS krf kB [kE43, kE89, kE310, kE314, kE317] (ksp [(192, 200, 7, 0, 7, 0)]) kE318 [kC318_0, kC318_1, kC318_2, kC318_3, kC318_4] 30000 (some kC318_3) = true := by decide +kernel
theorem ks318_4 : aseg kS krf kB [kE43, kE89, kE310, kE314, kE317] (ksp [(192, 200, 7, 0, 7, 0)]) kE318 [kC318_0, kC318_1, kC318_2, kC318_3, kC318_4] 30000 (some kC318_4) = true := by decide +kernel
theorem kok318 : aOK kS krf kB kE318 := aOK_of (kal1 kok43 (kal1 kok89 (kal1 kok310 (kal1 kok314 (kal1 kok317 kal0))))) (kcl1 ks318_0 (kcl1 ks318_1 (kcl1 ks318_2 (kcl1 ks318_3 (kcl1 ks318_4 kcl0))))) ks318
/-- ColdShodModel.triesWay(IIIII)V -/
def kE319 : aE := (192, 49, ([kvB 0 7, kvB 0 7, kvB 0 7], [], 0, [kvR 102, kvI 0, kvI 1, kvI 2, kvN 241, kvN 4, none, none], []), ([], none), ([], [], none, ([], [])), kvW64)
def kC319_0 : aC := (([kvB 0 7, kvB 0 7, kvB 0 7, kvB 0 1, kvB 0 4], [], 16, [kvR 102, kvI 0, kvI 1, kvI 2, kvN 241, kvN 4, kvI 3, kvI 4], []), ([], []), (336, [(-1, 4)]))
def kC319_1 : aC := (([kvB 0 7, kvB 0 7, kvB 0 7, kvB 0 12], [], 141, [kvR 102, kvI 0, kvI 1, kvI 2, kvN 241, kvN 4, kvI 3, none], []), ([], []), (141, [(-11, 3)]))
def kC319_2 : aC := (([kvB 0 7, kvB 0 7, kvB 0 7, kvB 0 11, (.negSucc 0, .ofNat 7), kvB 1 12], [(102, 8, .inl (5, .ofNat 0))], 195, [kvR 102, kvI 0, kvI 1, kvI 2, kvN 241, kvN 4, kvI 3, kvI 4], []), ([], []), (139, [(-11, 3), (-1, 4)]))
def kC319_3 : aC := (([kvB 0 7, kvB 0 7, kvB 0 7, (.negSucc 0, .ofNat 2147483647)], [(102, 29, .inl (3, .ofNat 0))], 91, [kvR 102, kvI 0, kvI 1, kvI 2, kvN 241, kvN 4, kvN 1, kvN 4], []), ([], []), (166, []))
def kC319_4 : aC := (([kvB 0 7, kvB 0 7, kvB 0 7, kvB 0 4, (.negSucc 0, .ofNat 99)], [(102, 29, .inl (4, .ofNat 0)), (102, 30, .inr (.ofNat 4))], 110, [kvR 102, kvI 0, kvI 1, kvI 2, kvN 241, kvN 4, kvN 1, kvI 3], []), ([], []), (4, [(-1, 3)]))
theorem ks319 : aseg kS krf kB [kE43, kE89, kE311, kE315, kE317] (ksp [(192, 200, 7, 0, 7, 0)]) kE319 [kC319_0, kC319_1, kC319_2, kC319_3, kC319_4] 30000 (none) = true := by decide +kernel
theorem ks319_0 : aseg kS krf kB [kE43, kE89, kE311, kE315, kE317] (ksp [(192, 200, 7, 0, 7, 0)]) kE319 [kC319_0, kC319_1, kC319_2, kC319_3, kC319_4] 30000 (some kC319_0) = true := by decide +kernel
theorem ks319_1 : aseg kS krf kB [kE43, kE89, kE311, kE315, kE317] (ksp [(192, 200, 7, 0, 7, 0)]) kE319 [kC319_0, kC319_1, kC319_2, kC319_3, kC319_4] 30000 (some kC319_1) = true := by decide +kernel
theorem ks319_2 : aseg kS krf kB [kE43, kE89, kE311, kE315, kE317] (ksp [(192, 200, 7, 0, 7, 0)]) kE319 [kC319_0, kC319_1, kC319_2, kC319_3, kC319_4] 30000 (some kC319_2) = true := by decide +kernel
theorem ks319_3 : aseg kS krf kB [kE43, kE89, kE311, kE315, kE317] (ksp [(192, 200, 7, 0, 7, 0)]) kE319 [kC319_0, kC319_1, kC319_2, kC319_3, kC319_4] 30000 (some kC319_3) = true := by decide +kernel
theorem ks319_4 : aseg kS krf kB [kE43, kE89, kE311, kE315, kE317] (ksp [(192, 200, 7, 0, 7, 0)]) kE319 [kC319_0, kC319_1, kC319_2, kC319_3, kC319_4] 30000 (some kC319_4) = true := by decide +kernel
theorem kok319 : aOK kS krf kB kE319 := aOK_of (kal1 kok43 (kal1 kok89 (kal1 kok311 (kal1 kok315 (kal1 kok317 kal0))))) (kcl1 ks319_0 (kcl1 ks319_1 (kcl1 ks319_2 (kcl1 ks319_3 (kcl1 ks319_4 kcl0))))) ks319
/-- ColdShodModel.triesWay(IIIII)V -/
def kE320 : aE := (192, 50, ([kvB 0 7, kvB 0 7, kvB 0 7], [], 0, [kvR 102, kvI 0, kvI 1, kvI 2, kvN 240, kvN 3, none, none], []), ([], none), ([], [], none, ([], [])), kvW65)
def kC320_0 : aC := (([kvB 0 7, kvB 0 7, kvB 0 7, kvB 0 1, kvB 0 3], [], 16, [kvR 102, kvI 0, kvI 1, kvI 2, kvN 240, kvN 3, kvI 3, kvI 4], []), ([], []), (335, [(-1, 4)]))
def kC320_1 : aC := (([kvB 0 7, kvB 0 7, kvB 0 7, kvB 0 12], [], 141, [kvR 102, kvI 0, kvI 1, kvI 2, kvN 240, kvN 3, kvI 3, none], []), ([], []), (141, [(-11, 3)]))
def kC320_2 : aC := (([kvB 0 7, kvB 0 7, kvB 0 7, kvB 0 11, (.negSucc 0, .ofNat 7), kvB 1 12], [(102, 8, .inl (5, .ofNat 0))], 195, [kvR 102, kvI 0, kvI 1, kvI 2, kvN 240, kvN 3, kvI 3, kvI 4], []), ([], []), (139, [(-11, 3), (-1, 4)]))
def kC320_3 : aC := (([kvB 0 7, kvB 0 7, kvB 0 7, (.negSucc 0, .ofNat 2147483647)], [(102, 29, .inl (3, .ofNat 0))], 91, [kvR 102, kvI 0, kvI 1, kvI 2, kvN 240, kvN 3, kvN 1, kvN 3], []), ([], []), (166, []))
def kC320_4 : aC := (([kvB 0 7, kvB 0 7, kvB 0 7, kvB 0 3, (.negSucc 0, .ofNat 99)], [(102, 29, .inl (4, .ofNat 0)), (102, 30, .inr (.ofNat 3))], 110, [kvR 102, kvI 0, kvI 1, kvI 2, kvN 240, kvN 3, kvN 1, kvI 3], []), ([], []), (3, [(-1, 3)]))
theorem ks320 : aseg kS krf kB [kE43, kE89, kE312, kE316, kE318, kE319] (ksp [(192, 200, 7, 0, 7, 0)]) kE320 [kC320_0, kC320_1, kC320_2, kC320_3, kC320_4] 30000 (none) = true := by decide +kernel
theorem ks320_0 : aseg kS krf kB [kE43, kE89, kE312, kE316, kE318, kE319] (ksp [(192, 200, 7, 0, 7, 0)]) kE320 [kC320_0, kC320_1, kC320_2, kC320_3, kC320_4] 30000 (some kC320_0) = true := by decide +kernel
theorem ks320_1 : aseg kS krf kB [kE43, kE89, kE312, kE316, kE318, kE319] (ksp [(192, 200, 7, 0, 7, 0)]) kE320 [kC320_0, kC320_1, kC320_2, kC320_3, kC320_4] 30000 (some kC320_1) = true := by decide +kernel
theorem ks320_2 : aseg kS krf kB [kE43, kE89, kE312, kE316, kE318, kE319] (ksp [(192, 200, 7, 0, 7, 0)]) kE320 [kC320_0, kC320_1, kC320_2, kC320_3, kC320_4] 30000 (some kC320_2) = true := by decide +kernel
theorem ks320_3 : aseg kS krf kB [kE43, kE89, kE312, kE316, kE318, kE319] (ksp [(192, 200, 7, 0, 7, 0)]) kE320 [kC320_0, kC320_1, kC320_2, kC320_3, kC320_4] 30000 (some kC320_3) = true := by decide +kernel
theorem ks320_4 : aseg kS krf kB [kE43, kE89, kE312, kE316, kE318, kE319] (ksp [(192, 200, 7, 0, 7, 0)]) kE320 [kC320_0, kC320_1, kC320_2, kC320_3, kC320_4] 30000 (some kC320_4) = true := by decide +kernel
theorem kok320 : aOK kS krf kB kE320 := aOK_of (kal1 kok43 (kal1 kok89 (kal1 kok312 (kal1 kok316 (kal1 kok318 (kal1 kok319 kal0)))))) (kcl1 ks320_0 (kcl1 ks320_1 (kcl1 ks320_2 (kcl1 ks320_3 (kcl1 ks320_4 kcl0))))) ks320
/-- ColdShodModel.triesWay(IIIII)V -/
def kE321 : aE := (192, 47, ([kvB 0 7, kvB 0 7, kvB 0 7], [], 0, [kvR 102, kvI 0, kvI 1, kvI 2, kvN 239, kvN 6, none, none], []), ([], none), ([], [], none, ([], [])), kvW62)
def kC321_0 : aC := (([kvB 0 7, kvB 0 7, kvB 0 7, kvB 0 1, kvB 0 6], [], 16, [kvR 102, kvI 0, kvI 1, kvI 2, kvN 239, kvN 6, kvI 3, kvI 4], []), ([], []), (338, [(-1, 4)]))
def kC321_1 : aC := (([kvB 0 7, kvB 0 7, kvB 0 7, kvB 0 12], [], 141, [kvR 102, kvI 0, kvI 1, kvI 2, kvN 239, kvN 6, kvI 3, none], []), ([], []), (141, [(-11, 3)]))
def kC321_2 : aC := (([kvB 0 7, kvB 0 7, kvB 0 7, kvB 0 11, (.negSucc 0, .ofNat 7), kvB 1 12], [(102, 8, .inl (5, .ofNat 0))], 195, [kvR 102, kvI 0, kvI 1, kvI 2, kvN 239, kvN 6, kvI 3, kvI 4], []), ([], []), (139, [(-11, 3), (-1, 4)]))
def kC321_3 : aC := (([kvB 0 7, kvB 0 7, kvB 0 7, (.negSucc 0, .ofNat 2147483647)], [(102, 29, .inl (3, .ofNat 0))], 91, [kvR 102, kvI 0, kvI 1, kvI 2, kvN 239, kvN 6, kvN 1, kvN 6], []), ([], []), (166, []))
def kC321_4 : aC := (([kvB 0 7, kvB 0 7, kvB 0 7, kvB 0 6, (.negSucc 0, .ofNat 99)], [(102, 29, .inl (4, .ofNat 0)), (102, 30, .inr (.ofNat 6))], 110, [kvR 102, kvI 0, kvI 1, kvI 2, kvN 239, kvN 6, kvN 1, kvI 3], []), ([], []), (6, [(-1, 3)]))
theorem ks321 : aseg kS krf kB [kE43, kE89, kE305] (ksp [(192, 200, 7, 0, 7, 0)]) kE321 [kC321_0, kC321_1, kC321_2, kC321_3, kC321_4] 30000 (none) = true := by decide +kernel
theorem ks321_0 : aseg kS krf kB [kE43, kE89, kE305] (ksp [(192, 200, 7, 0, 7, 0)]) kE321 [kC321_0, kC321_1, kC321_2, kC321_3, kC321_4] 30000 (some kC321_0) = true := by decide +kernel
theorem ks321_1 : aseg kS krf kB [kE43, kE89, kE305] (ksp [(192, 200, 7, 0, 7, 0)]) kE321 [kC321_0, kC321_1, kC321_2, kC321_3, kC321_4] 30000 (some kC321_1) = true := by decide +kernel
theorem ks321_2 : aseg kS krf kB [kE43, kE89, kE305] (ksp [(192, 200, 7, 0, 7, 0)]) kE321 [kC321_0, kC321_1, kC321_2, kC321_3, kC321_4] 30000 (some kC321_2) = true := by decide +kernel
theorem ks321_3 : aseg kS krf kB [kE43, kE89, kE305] (ksp [(192, 200, 7, 0, 7, 0)]) kE321 [kC321_0, kC321_1, kC321_2, kC321_3, kC321_4] 30000 (some kC321_3) = true := by decide +kernel
theorem ks321_4 : aseg kS krf kB [kE43, kE89, kE305] (ksp [(192, 200, 7, 0, 7, 0)]) kE321 [kC321_0, kC321_1, kC321_2, kC321_3, kC321_4] 30000 (some kC321_4) = true := by decide +kernel
theorem kok321 : aOK kS krf kB kE321 := aOK_of (kal1 kok43 (kal1 kok89 (kal1 kok305 kal0))) (kcl1 ks321_0 (kcl1 ks321_1 (kcl1 ks321_2 (kcl1 ks321_3 (kcl1 ks321_4 kcl0))))) ks321
/-- ColdShodModel.triesWay(IIIII)V -/
def kE322 : aE := (192, 48, ([kvB 0 7, kvB 0 7, kvB 0 7], [], 0, [kvR 102, kvI 0, kvI 1, kvI 2, kvN 238, kvN 5, none, none], []), ([], none), ([], [], none, ([], [])), kvW63)
def kC322_0 : aC := (([kvB 0 7, kvB 0 7, kvB 0 7, kvB 0 1, kvB 0 5], [], 16, [kvR 102, kvI 0, kvI 1, kvI 2, kvN 238, kvN 5, kvI 3, kvI 4], []), ([], []), (337, [(-1, 4)]))
def kC322_1 : aC := (([kvB 0 7, kvB 0 7, kvB 0 7, kvB 0 12], [], 141, [kvR 102, kvI 0, kvI 1, kvI 2, kvN 238, kvN 5, kvI 3, none], []), ([], []), (141, [(-11, 3)]))
def kC322_2 : aC := (([kvB 0 7, kvB 0 7, kvB 0 7, kvB 0 11, (.negSucc 0, .ofNat 7), kvB 1 12], [(102, 8, .inl (5, .ofNat 0))], 195, [kvR 102, kvI 0, kvI 1, kvI 2, kvN 238, kvN 5, kvI 3, kvI 4], []), ([], []), (139, [(-11, 3), (-1, 4)]))
def kC322_3 : aC := (([kvB 0 7, kvB 0 7, kvB 0 7, (.negSucc 0, .ofNat 2147483647)], [(102, 29, .inl (3, .ofNat 0))], 91, [kvR 102, kvI 0, kvI 1, kvI 2, kvN 238, kvN 5, kvN 1, kvN 5], []), ([], []), (166, []))
def kC322_4 : aC := (([kvB 0 7, kvB 0 7, kvB 0 7, kvB 0 5, (.negSucc 0, .ofNat 99)], [(102, 29, .inl (4, .ofNat 0)), (102, 30, .inr (.ofNat 5))], 110, [kvR 102, kvI 0, kvI 1, kvI 2, kvN 238, kvN 5, kvN 1, kvI 3], []), ([], []), (5, [(-1, 3)]))
theorem ks322 : aseg kS krf kB [kE43, kE89, kE306, kE321] (ksp [(192, 200, 7, 0, 7, 0)]) kE322 [kC322_0, kC322_1, kC322_2, kC322_3, kC322_4] 30000 (none) = true := by decide +kernel
theorem ks322_0 : aseg kS krf kB [kE43, kE89, kE306, kE321] (ksp [(192, 200, 7, 0, 7, 0)]) kE322 [kC322_0, kC322_1, kC322_2, kC322_3, kC322_4] 30000 (some kC322_0) = true := by decide +kernel
theorem ks322_1 : aseg kS krf kB [kE43, kE89, kE306, kE321] (ksp [(192, 200, 7, 0, 7, 0)]) kE322 [kC322_0, kC322_1, kC322_2, kC322_3, kC322_4] 30000 (some kC322_1) = true := by decide +kernel
theorem ks322_2 : aseg kS krf kB [kE43, kE89, kE306, kE321] (ksp [(192, 200, 7, 0, 7, 0)]) kE322 [kC322_0, kC322_1, kC322_2, kC322_3, kC322_4] 30000 (some kC322_2) = true := by decide +kernel
theorem ks322_3 : aseg kS krf kB [kE43, kE89, kE306, kE321] (ksp [(192, 200, 7, 0, 7, 0)]) kE322 [kC322_0, kC322_1, kC322_2, kC322_3, kC322_4] 30000 (some kC322_3) = true := by decide +kernel
theorem ks322_4 : aseg kS krf kB [kE43, kE89, kE306, kE321] (ksp [(192, 200, 7, 0, 7, 0)]) kE322 [kC322_0, kC322_1, kC322_2, kC322_3, kC322_4] 30000 (some kC322_4) = true := by decide +kernel
theorem kok322 : aOK kS krf kB kE322 := aOK_of (kal1 kok43 (kal1 kok89 (kal1 kok306 (kal1 kok321 kal0)))) (kcl1 ks322_0 (kcl1 ks322_1 (kcl1 ks322_2 (kcl1 ks322_3 (kcl1 ks322_4 kcl0))))) ks322
/-- ColdShodModel.triesWay(IIIII)V -/
def kE323 : aE := (192, 48, ([kvB 0 7, kvB 0 7, kvB 0 7], [], 0, [kvR 102, kvI 0, kvI 1, kvI 2, kvN 237, kvN 5, none, none], []), ([], none), ([], [], none, ([], [])), kvW63)
def kC323_0 : aC := (([kvB 0 7, kvB 0 7, kvB 0 7, kvB 0 1, kvB 0 5], [], 16, [kvR 102, kvI 0, kvI 1, kvI 2, kvN 237, kvN 5, kvI 3, kvI 4], []), ([], []), (337, [(-1, 4)]))
def kC323_1 : aC := (([kvB 0 7, kvB 0 7, kvB 0 7, kvB 0 12], [], 141, [kvR 102, kvI 0, kvI 1, kvI 2, kvN 237, kvN 5, kvI 3, none], []), ([], []), (141, [(-11, 3)]))
def kC323_2 : aC := (([kvB 0 7, kvB 0 7, kvB 0 7, kvB 0 11, (.negSucc 0, .ofNat 7), kvB 1 12], [(102, 8, .inl (5, .ofNat 0))], 195, [kvR 102, kvI 0, kvI 1, kvI 2, kvN 237, kvN 5, kvI 3, kvI 4], []), ([], []), (139, [(-11, 3), (-1, 4)]))
def kC323_3 : aC := (([kvB 0 7, kvB 0 7, kvB 0 7, (.negSucc 0, .ofNat 2147483647)], [(102, 29, .inl (3, .ofNat 0))], 91, [kvR 102, kvI 0, kvI 1, kvI 2, kvN 237, kvN 5, kvN 1, kvN 5], []), ([], []), (166, []))
def kC323_4 : aC := (([kvB 0 7, kvB 0 7, kvB 0 7, kvB 0 5, (.negSucc 0, .ofNat 99)], [(102, 29, .inl (4, .ofNat 0)), (102, 30, .inr (.ofNat 5))], 110, [kvR 102, kvI 0, kvI 1, kvI 2, kvN 237, kvN 5, kvN 1, kvI 3], []), ([], []), (5, [(-1, 3)]))
theorem ks323 : aseg kS krf kB [kE43, kE89, kE307, kE321] (ksp [(192, 200, 7, 0, 7, 0)]) kE323 [kC323_0, kC323_1, kC323_2, kC323_3, kC323_4] 30000 (none) = true := by decide +kernel
theorem ks323_0 : aseg kS krf kB [kE43, kE89, kE307, kE321] (ksp [(192, 200, 7, 0, 7, 0)]) kE323 [kC323_0, kC323_1, kC323_2, kC323_3, kC323_4] 30000 (some kC323_0) = true := by decide +kernel
theorem ks323_1 : aseg kS krf kB [kE43, kE89, kE307, kE321] (ksp [(192, 200, 7, 0, 7, 0)]) kE323 [kC323_0, kC323_1, kC323_2, kC323_3, kC323_4] 30000 (some kC323_1) = true := by decide +kernel
theorem ks323_2 : aseg kS krf kB [kE43, kE89, kE307, kE321] (ksp [(192, 200, 7, 0, 7, 0)]) kE323 [kC323_0, kC323_1, kC323_2, kC323_3, kC323_4] 30000 (some kC323_2) = true := by decide +kernel
theorem ks323_3 : aseg kS krf kB [kE43, kE89, kE307, kE321] (ksp [(192, 200, 7, 0, 7, 0)]) kE323 [kC323_0, kC323_1, kC323_2, kC323_3, kC323_4] 30000 (some kC323_3) = true := by decide +kernel
theorem ks323_4 : aseg kS krf kB [kE43, kE89, kE307, kE321] (ksp [(192, 200, 7, 0, 7, 0)]) kE323 [kC323_0, kC323_1, kC323_2, kC323_3, kC323_4] 30000 (some kC323_4) = true := by decide +kernel
theorem kok323 : aOK kS krf kB kE323 := aOK_of (kal1 kok43 (kal1 kok89 (kal1 kok307 (kal1 kok321 kal0)))) (kcl1 ks323_0 (kcl1 ks323_1 (kcl1 ks323_2 (kcl1 ks323_3 (kcl1 ks323_4 kcl0))))) ks323
/-- ColdShodModel.triesWay(IIIII)V -/
def kE324 : aE := (192, 49, ([kvB 0 7, kvB 0 7, kvB 0 7], [], 0, [kvR 102, kvI 0, kvI 1, kvI 2, kvN 236, kvN 4, none, none], []), ([], none), ([], [], none, ([], [])), kvW64)
def kC324_0 : aC := (([kvB 0 7, kvB 0 7, kvB 0 7, kvB 0 1, kvB 0 4], [], 16, [kvR 102, kvI 0, kvI 1, kvI 2, kvN 236, kvN 4, kvI 3, kvI 4], []), ([], []), (336, [(-1, 4)]))
def kC324_1 : aC := (([kvB 0 7, kvB 0 7, kvB 0 7, kvB 0 12], [], 141, [kvR 102, kvI 0, kvI 1, kvI 2, kvN 236, kvN 4, kvI 3, none], []), ([], []), (141, [(-11, 3)]))
def kC324_2 : aC := (([kvB 0 7, kvB 0 7, kvB 0 7, kvB 0 11, (.negSucc 0, .ofNat 7), kvB 1 12], [(102, 8, .inl (5, .ofNat 0))], 195, [kvR 102, kvI 0, kvI 1, kvI 2, kvN 236, kvN 4, kvI 3, kvI 4], []), ([], []), (139, [(-11, 3), (-1, 4)]))
def kC324_3 : aC := (([kvB 0 7, kvB 0 7, kvB 0 7, (.negSucc 0, .ofNat 2147483647)], [(102, 29, .inl (3, .ofNat 0))], 91, [kvR 102, kvI 0, kvI 1, kvI 2, kvN 236, kvN 4, kvN 1, kvN 4], []), ([], []), (166, []))
def kC324_4 : aC := (([kvB 0 7, kvB 0 7, kvB 0 7, kvB 0 4, (.negSucc 0, .ofNat 99)], [(102, 29, .inl (4, .ofNat 0)), (102, 30, .inr (.ofNat 4))], 110, [kvR 102, kvI 0, kvI 1, kvI 2, kvN 236, kvN 4, kvN 1, kvI 3], []), ([], []), (4, [(-1, 3)]))
theorem ks324 : aseg kS krf kB [kE43, kE89, kE308, kE322, kE323] (ksp [(192, 200, 7, 0, 7, 0)]) kE324 [kC324_0, kC324_1, kC324_2, kC324_3, kC324_4] 30000 (none) = true := by decide +kernel
theorem ks324_0 : aseg kS krf kB [kE43, kE89, kE308, kE322, kE323] (ksp [(192, 200, 7, 0, 7, 0)]) kE324 [kC324_0, kC324_1, kC324_2, kC324_3, kC324_4] 30000 (some kC324_0) = true := by decide +kernel
theorem ks324_1 : aseg kS krf kB [kE43, kE89, kE308, kE322, kE323] (ksp [(192, 200, 7, 0, 7, 0)]) kE324 [kC324_0, kC324_1, kC324_2, kC324_3, kC324_4] 30000 (some kC324_1) = true := by decide +kernel
theorem ks324_2 : aseg kS krf kB [kE43, kE89, kE308, kE322, kE323] (ksp [(192, 200, 7, 0, 7, 0)]) kE324 [kC324_0, kC324_1, kC324_2, kC324_3, kC324_4] 30000 (some kC324_2) = true := by decide +kernel
theorem ks324_3 : aseg kS krf kB [kE43, kE89, kE308, kE322, kE323] (ksp [(192, 200, 7, 0, 7, 0)]) kE324 [kC324_0, kC324_1, kC324_2, kC324_3, kC324_4] 30000 (some kC324_3) = true := by decide +kernel
theorem ks324_4 : aseg kS krf kB [kE43, kE89, kE308, kE322, kE323] (ksp [(192, 200, 7, 0, 7, 0)]) kE324 [kC324_0, kC324_1, kC324_2, kC324_3, kC324_4] 30000 (some kC324_4) = true := by decide +kernel
theorem kok324 : aOK kS krf kB kE324 := aOK_of (kal1 kok43 (kal1 kok89 (kal1 kok308 (kal1 kok322 (kal1 kok323 kal0))))) (kcl1 ks324_0 (kcl1 ks324_1 (kcl1 ks324_2 (kcl1 ks324_3 (kcl1 ks324_4 kcl0))))) ks324
/-- ColdShodModel.triesWay(IIIII)V -/
def kE325 : aE := (192, 48, ([kvB 0 7, kvB 0 7, kvB 0 7], [], 0, [kvR 102, kvI 0, kvI 1, kvI 2, kvN 235, kvN 5, none, none], []), ([], none), ([], [], none, ([], [])), kvW63)
def kC325_0 : aC := (([kvB 0 7, kvB 0 7, kvB 0 7, kvB 0 1, kvB 0 5], [], 16, [kvR 102, kvI 0, kvI 1, kvI 2, kvN 235, kvN 5, kvI 3, kvI 4], []), ([], []), (337, [(-1, 4)]))
def kC325_1 : aC := (([kvB 0 7, kvB 0 7, kvB 0 7, kvB 0 12], [], 141, [kvR 102, kvI 0, kvI 1, kvI 2, kvN 235, kvN 5, kvI 3, none], []), ([], []), (141, [(-11, 3)]))
def kC325_2 : aC := (([kvB 0 7, kvB 0 7, kvB 0 7, kvB 0 11, (.negSucc 0, .ofNat 7), kvB 1 12], [(102, 8, .inl (5, .ofNat 0))], 195, [kvR 102, kvI 0, kvI 1, kvI 2, kvN 235, kvN 5, kvI 3, kvI 4], []), ([], []), (139, [(-11, 3), (-1, 4)]))
def kC325_3 : aC := (([kvB 0 7, kvB 0 7, kvB 0 7, (.negSucc 0, .ofNat 2147483647)], [(102, 29, .inl (3, .ofNat 0))], 91, [kvR 102, kvI 0, kvI 1, kvI 2, kvN 235, kvN 5, kvN 1, kvN 5], []), ([], []), (166, []))
def kC325_4 : aC := (([kvB 0 7, kvB 0 7, kvB 0 7, kvB 0 5, (.negSucc 0, .ofNat 99)], [(102, 29, .inl (4, .ofNat 0)), (102, 30, .inr (.ofNat 5))], 110, [kvR 102, kvI 0, kvI 1, kvI 2, kvN 235, kvN 5, kvN 1, kvI 3], []), ([], []), (5, [(-1, 3)]))
theorem ks325 : aseg kS krf kB [kE43, kE89, kE309, kE321] (ksp [(192, 200, 7, 0, 7, 0)]) kE325 [kC325_0, kC325_1, kC325_2, kC325_3, kC325_4] 30000 (none) = true := by decide +kernel
theorem ks325_0 : aseg kS krf kB [kE43, kE89, kE309, kE321] (ksp [(192, 200, 7, 0, 7, 0)]) kE325 [kC325_0, kC325_1, kC325_2, kC325_3, kC325_4] 30000 (some kC325_0) = true := by decide +kernel
theorem ks325_1 : aseg kS krf kB [kE43, kE89, kE309, kE321] (ksp [(192, 200, 7, 0, 7, 0)]) kE325 [kC325_0, kC325_1, kC325_2, kC325_3, kC325_4] 30000 (some kC325_1) = true := by decide +kernel
theorem ks325_2 : aseg kS krf kB [kE43, kE89, kE309, kE321] (ksp [(192, 200, 7, 0, 7, 0)]) kE325 [kC325_0, kC325_1, kC325_2, kC325_3, kC325_4] 30000 (some kC325_2) = true := by decide +kernel
theorem ks325_3 : aseg kS krf kB [kE43, kE89, kE309, kE321] (ksp [(192, 200, 7, 0, 7, 0)]) kE325 [kC325_0, kC325_1, kC325_2, kC325_3, kC325_4] 30000 (some kC325_3) = true := by decide +kernel
theorem ks325_4 : aseg kS krf kB [kE43, kE89, kE309, kE321] (ksp [(192, 200, 7, 0, 7, 0)]) kE325 [kC325_0, kC325_1, kC325_2, kC325_3, kC325_4] 30000 (some kC325_4) = true := by decide +kernel
theorem kok325 : aOK kS krf kB kE325 := aOK_of (kal1 kok43 (kal1 kok89 (kal1 kok309 (kal1 kok321 kal0)))) (kcl1 ks325_0 (kcl1 ks325_1 (kcl1 ks325_2 (kcl1 ks325_3 (kcl1 ks325_4 kcl0))))) ks325
/-- ColdShodModel.triesWay(IIIII)V -/
def kE326 : aE := (192, 49, ([kvB 0 7, kvB 0 7, kvB 0 7], [], 0, [kvR 102, kvI 0, kvI 1, kvI 2, kvN 234, kvN 4, none, none], []), ([], none), ([], [], none, ([], [])), kvW64)
def kC326_0 : aC := (([kvB 0 7, kvB 0 7, kvB 0 7, kvB 0 1, kvB 0 4], [], 16, [kvR 102, kvI 0, kvI 1, kvI 2, kvN 234, kvN 4, kvI 3, kvI 4], []), ([], []), (336, [(-1, 4)]))
def kC326_1 : aC := (([kvB 0 7, kvB 0 7, kvB 0 7, kvB 0 12], [], 141, [kvR 102, kvI 0, kvI 1, kvI 2, kvN 234, kvN 4, kvI 3, none], []), ([], []), (141, [(-11, 3)]))
def kC326_2 : aC := (([kvB 0 7, kvB 0 7, kvB 0 7, kvB 0 11, (.negSucc 0, .ofNat 7), kvB 1 12], [(102, 8, .inl (5, .ofNat 0))], 195, [kvR 102, kvI 0, kvI 1, kvI 2, kvN 234, kvN 4, kvI 3, kvI 4], []), ([], []), (139, [(-11, 3), (-1, 4)]))
def kC326_3 : aC := (([kvB 0 7, kvB 0 7, kvB 0 7, (.negSucc 0, .ofNat 2147483647)], [(102, 29, .inl (3, .ofNat 0))], 91, [kvR 102, kvI 0, kvI 1, kvI 2, kvN 234, kvN 4, kvN 1, kvN 4], []), ([], []), (166, []))
def kC326_4 : aC := (([kvB 0 7, kvB 0 7, kvB 0 7, kvB 0 4, (.negSucc 0, .ofNat 99)], [(102, 29, .inl (4, .ofNat 0)), (102, 30, .inr (.ofNat 4))], 110, [kvR 102, kvI 0, kvI 1, kvI 2, kvN 234, kvN 4, kvN 1, kvI 3], []), ([], []), (4, [(-1, 3)]))
theorem ks326 : aseg kS krf kB [kE43, kE89, kE310, kE322, kE325] (ksp [(192, 200, 7, 0, 7, 0)]) kE326 [kC326_0, kC326_1, kC326_2, kC326_3, kC326_4] 30000 (none) = true := by decide +kernel
theorem ks326_0 : aseg kS krf kB [kE43, kE89, kE310, kE322, kE325] (ksp [(192, 200, 7, 0, 7, 0)]) kE326 [kC326_0, kC326_1, kC326_2, kC326_3, kC326_4] 30000 (some kC326_0) = true := by decide +kernel
theorem ks326_1 : aseg kS krf kB [kE43, kE89, kE310, kE322, kE325] (ksp [(192, 200, 7, 0, 7, 0)]) kE326 [kC326_0, kC326_1, kC326_2, kC326_3, kC326_4] 30000 (some kC326_1) = true := by decide +kernel
theorem ks326_2 : aseg kS krf kB [kE43, kE89, kE310, kE322, kE325] (ksp [(192, 200, 7, 0, 7, 0)]) kE326 [kC326_0, kC326_1, kC326_2, kC326_3, kC326_4] 30000 (some kC326_2) = true := by decide +kernel
theorem ks326_3 : aseg kS krf kB [kE43, kE89, kE310, kE322, kE325] (ksp [(192, 200, 7, 0, 7, 0)]) kE326 [kC326_0, kC326_1, kC326_2, kC326_3, kC326_4] 30000 (some kC326_3) = true := by decide +kernel
theorem ks326_4 : aseg kS krf kB [kE43, kE89, kE310, kE322, kE325] (ksp [(192, 200, 7, 0, 7, 0)]) kE326 [kC326_0, kC326_1, kC326_2, kC326_3, kC326_4] 30000 (some kC326_4) = true := by decide +kernel
theorem kok326 : aOK kS krf kB kE326 := aOK_of (kal1 kok43 (kal1 kok89 (kal1 kok310 (kal1 kok322 (kal1 kok325 kal0))))) (kcl1 ks326_0 (kcl1 ks326_1 (kcl1 ks326_2 (kcl1 ks326_3 (kcl1 ks326_4 kcl0))))) ks326
/-- ColdShodModel.triesWay(IIIII)V -/
def kE327 : aE := (192, 49, ([kvB 0 7, kvB 0 7, kvB 0 7], [], 0, [kvR 102, kvI 0, kvI 1, kvI 2, kvN 233, kvN 4, none, none], []), ([], none), ([], [], none, ([], [])), kvW64)
def kC327_0 : aC := (([kvB 0 7, kvB 0 7, kvB 0 7, kvB 0 1, kvB 0 4], [], 16, [kvR 102, kvI 0, kvI 1, kvI 2, kvN 233, kvN 4, kvI 3, kvI 4], []), ([], []), (336, [(-1, 4)]))
def kC327_1 : aC := (([kvB 0 7, kvB 0 7, kvB 0 7, kvB 0 12], [], 141, [kvR 102, kvI 0, kvI 1, kvI 2, kvN 233, kvN 4, kvI 3, none], []), ([], []), (141, [(-11, 3)]))
def kC327_2 : aC := (([kvB 0 7, kvB 0 7, kvB 0 7, kvB 0 11, (.negSucc 0, .ofNat 7), kvB 1 12], [(102, 8, .inl (5, .ofNat 0))], 195, [kvR 102, kvI 0, kvI 1, kvI 2, kvN 233, kvN 4, kvI 3, kvI 4], []), ([], []), (139, [(-11, 3), (-1, 4)]))
def kC327_3 : aC := (([kvB 0 7, kvB 0 7, kvB 0 7, (.negSucc 0, .ofNat 2147483647)], [(102, 29, .inl (3, .ofNat 0))], 91, [kvR 102, kvI 0, kvI 1, kvI 2, kvN 233, kvN 4, kvN 1, kvN 4], []), ([], []), (166, []))
def kC327_4 : aC := (([kvB 0 7, kvB 0 7, kvB 0 7, kvB 0 4, (.negSucc 0, .ofNat 99)], [(102, 29, .inl (4, .ofNat 0)), (102, 30, .inr (.ofNat 4))], 110, [kvR 102, kvI 0, kvI 1, kvI 2, kvN 233, kvN 4, kvN 1, kvI 3], []), ([], []), (4, [(-1, 3)]))
theorem ks327 : aseg kS krf kB [kE43, kE89, kE311, kE323, kE325] (ksp [(192, 200, 7, 0, 7, 0)]) kE327 [kC327_0, kC327_1, kC327_2, kC327_3, kC327_4] 30000 (none) = true := by decide +kernel
theorem ks327_0 : aseg kS krf kB [kE43, kE89, kE311, kE323, kE325] (ksp [(192, 200, 7, 0, 7, 0)]) kE327 [kC327_0, kC327_1, kC327_2, kC327_3, kC327_4] 30000 (some kC327_0) = true := by decide +kernel
theorem ks327_1 : aseg kS krf kB [kE43, kE89, kE311, kE323, kE325] (ksp [(192, 200, 7, 0, 7, 0)]) kE327 [kC327_0, kC327_1, kC327_2, kC327_3, kC327_4] 30000 (some kC327_1) = true := by decide +kernel
theorem ks327_2 : aseg kS krf kB [kE43, kE89, kE311, kE323, kE325] (ksp [(192, 200, 7, 0, 7, 0)]) kE327 [kC327_0, kC327_1, kC327_2, kC327_3, kC327_4] 30000 (some kC327_2) = true := by decide +kernel
theorem ks327_3 : aseg kS krf kB [kE43, kE89, kE311, kE323, kE325] (ksp [(192, 200, 7, 0, 7, 0)]) kE327 [kC327_0, kC327_1, kC327_2, kC327_3, kC327_4] 30000 (some kC327_3) = true := by decide +kernel
theorem ks327_4 : aseg kS krf kB [kE43, kE89, kE311, kE323, kE325] (ksp [(192, 200, 7, 0, 7, 0)]) kE327 [kC327_0, kC327_1, kC327_2, kC327_3, kC327_4] 30000 (some kC327_4) = true := by decide +kernel
theorem kok327 : aOK kS krf kB kE327 := aOK_of (kal1 kok43 (kal1 kok89 (kal1 kok311 (kal1 kok323 (kal1 kok325 kal0))))) (kcl1 ks327_0 (kcl1 ks327_1 (kcl1 ks327_2 (kcl1 ks327_3 (kcl1 ks327_4 kcl0))))) ks327
/-- ColdShodModel.triesWay(IIIII)V -/
def kE328 : aE := (192, 50, ([kvB 0 7, kvB 0 7, kvB 0 7], [], 0, [kvR 102, kvI 0, kvI 1, kvI 2, kvN 232, kvN 3, none, none], []), ([], none), ([], [], none, ([], [])), kvW65)
def kC328_0 : aC := (([kvB 0 7, kvB 0 7, kvB 0 7, kvB 0 1, kvB 0 3], [], 16, [kvR 102, kvI 0, kvI 1, kvI 2, kvN 232, kvN 3, kvI 3, kvI 4], []), ([], []), (335, [(-1, 4)]))
def kC328_1 : aC := (([kvB 0 7, kvB 0 7, kvB 0 7, kvB 0 12], [], 141, [kvR 102, kvI 0, kvI 1, kvI 2, kvN 232, kvN 3, kvI 3, none], []), ([], []), (141, [(-11, 3)]))
def kC328_2 : aC := (([kvB 0 7, kvB 0 7, kvB 0 7, kvB 0 11, (.negSucc 0, .ofNat 7), kvB 1 12], [(102, 8, .inl (5, .ofNat 0))], 195, [kvR 102, kvI 0, kvI 1, kvI 2, kvN 232, kvN 3, kvI 3, kvI 4], []), ([], []), (139, [(-11, 3), (-1, 4)]))
def kC328_3 : aC := (([kvB 0 7, kvB 0 7, kvB 0 7, (.negSucc 0, .ofNat 2147483647)], [(102, 29, .inl (3, .ofNat 0))], 91, [kvR 102, kvI 0, kvI 1, kvI 2, kvN 232, kvN 3, kvN 1, kvN 3], []), ([], []), (166, []))
def kC328_4 : aC := (([kvB 0 7, kvB 0 7, kvB 0 7, kvB 0 3, (.negSucc 0, .ofNat 99)], [(102, 29, .inl (4, .ofNat 0)), (102, 30, .inr (.ofNat 3))], 110, [kvR 102, kvI 0, kvI 1, kvI 2, kvN 232, kvN 3, kvN 1, kvI 3], []), ([], []), (3, [(-1, 3)]))
theorem ks328 : aseg kS krf kB [kE43, kE89, kE312, kE324, kE326, kE327] (ksp [(192, 200, 7, 0, 7, 0)]) kE328 [kC328_0, kC328_1, kC328_2, kC328_3, kC328_4] 30000 (none) = true := by decide +kernel
theorem ks328_0 : aseg kS krf kB [kE43, kE89, kE312, kE324, kE326, kE327] (ksp [(192, 200, 7, 0, 7, 0)]) kE328 [kC328_0, kC328_1, kC328_2, kC328_3, kC328_4] 30000 (some kC328_0) = true := by decide +kernel
theorem ks328_1 : aseg kS krf kB [kE43, kE89, kE312, kE324, kE326, kE327] (ksp [(192, 200, 7, 0, 7, 0)]) kE328 [kC328_0, kC328_1, kC328_2, kC328_3, kC328_4] 30000 (some kC328_1) = true := by decide +kernel
theorem ks328_2 : aseg kS krf kB [kE43, kE89, kE312, kE324, kE326, kE327] (ksp [(192, 200, 7, 0, 7, 0)]) kE328 [kC328_0, kC328_1, kC328_2, kC328_3, kC328_4] 30000 (some kC328_2) = true := by decide +kernel
theorem ks328_3 : aseg kS krf kB [kE43, kE89, kE312, kE324, kE326, kE327] (ksp [(192, 200, 7, 0, 7, 0)]) kE328 [kC328_0, kC328_1, kC328_2, kC328_3, kC328_4] 30000 (some kC328_3) = true := by decide +kernel
theorem ks328_4 : aseg kS krf kB [kE43, kE89, kE312, kE324, kE326, kE327] (ksp [(192, 200, 7, 0, 7, 0)]) kE328 [kC328_0, kC328_1, kC328_2, kC328_3, kC328_4] 30000 (some kC328_4) = true := by decide +kernel
theorem kok328 : aOK kS krf kB kE328 := aOK_of (kal1 kok43 (kal1 kok89 (kal1 kok312 (kal1 kok324 (kal1 kok326 (kal1 kok327 kal0)))))) (kcl1 ks328_0 (kcl1 ks328_1 (kcl1 ks328_2 (kcl1 ks328_3 (kcl1 ks328_4 kcl0))))) ks328
/-- ColdShodModel.triesWay(IIIII)V -/
def kE329 : aE := (192, 48, ([kvB 0 7, kvB 0 7, kvB 0 7], [], 0, [kvR 102, kvI 0, kvI 1, kvI 2, kvN 231, kvN 5, none, none], []), ([], none), ([], [], none, ([], [])), kvW63)
def kC329_0 : aC := (([kvB 0 7, kvB 0 7, kvB 0 7, kvB 0 1, kvB 0 5], [], 16, [kvR 102, kvI 0, kvI 1, kvI 2, kvN 231, kvN 5, kvI 3, kvI 4], []), ([], []), (337, [(-1, 4)]))
def kC329_1 : aC := (([kvB 0 7, kvB 0 7, kvB 0 7, kvB 0 12], [], 141, [kvR 102, kvI 0, kvI 1, kvI 2, kvN 231, kvN 5, kvI 3, none], []), ([], []), (141, [(-11, 3)]))
def kC329_2 : aC := (([kvB 0 7, kvB 0 7, kvB 0 7, kvB 0 11, (.negSucc 0, .ofNat 7), kvB 1 12], [(102, 8, .inl (5, .ofNat 0))], 195, [kvR 102, kvI 0, kvI 1, kvI 2, kvN 231, kvN 5, kvI 3, kvI 4], []), ([], []), (139, [(-11, 3), (-1, 4)]))
def kC329_3 : aC := (([kvB 0 7, kvB 0 7, kvB 0 7, (.negSucc 0, .ofNat 2147483647)], [(102, 29, .inl (3, .ofNat 0))], 91, [kvR 102, kvI 0, kvI 1, kvI 2, kvN 231, kvN 5, kvN 1, kvN 5], []), ([], []), (166, []))
def kC329_4 : aC := (([kvB 0 7, kvB 0 7, kvB 0 7, kvB 0 5, (.negSucc 0, .ofNat 99)], [(102, 29, .inl (4, .ofNat 0)), (102, 30, .inr (.ofNat 5))], 110, [kvR 102, kvI 0, kvI 1, kvI 2, kvN 231, kvN 5, kvN 1, kvI 3], []), ([], []), (5, [(-1, 3)]))
theorem ks329 : aseg kS krf kB [kE43, kE89, kE313, kE321] (ksp [(192, 200, 7, 0, 7, 0)]) kE329 [kC329_0, kC329_1, kC329_2, kC329_3, kC329_4] 30000 (none) = true := by decide +kernel
theorem ks329_0 : aseg kS krf kB [kE43, kE89, kE313, kE321] (ksp [(192, 200, 7, 0, 7, 0)]) kE329 [kC329_0, kC329_1, kC329_2, kC329_3, kC329_4] 30000 (some kC329_0) = true := by decide +kernel
theorem ks329_1 : aseg kS krf kB [kE43, kE89, kE313, kE321] (ksp [(192, 200, 7, 0, 7, 0)]) kE329 [kC329_0, kC329_1, kC329_2, kC329_3, kC329_4] 30000 (some kC329_1) = true := by decide +kernel
theorem ks329_2 : aseg kS krf kB [kE43, kE89, kE313, kE321] (ksp [(192, 200, 7, 0, 7, 0)]) kE329 [kC329_0, kC329_1, kC329_2, kC329_3, kC329_4] 30000 (some kC329_2) = true := by decide +kernel
theorem ks329_3 : aseg kS krf kB [kE43, kE89, kE313, kE321] (ksp [(192, 200, 7, 0, 7, 0)]) kE329 [kC329_0, kC329_1, kC329_2, kC329_3, kC329_4] 30000 (some kC329_3) = true := by decide +kernel
theorem ks329_4 : aseg kS krf kB [kE43, kE89, kE313, kE321] (ksp [(192, 200, 7, 0, 7, 0)]) kE329 [kC329_0, kC329_1, kC329_2, kC329_3, kC329_4] 30000 (some kC329_4) = true := by decide +kernel
theorem kok329 : aOK kS krf kB kE329 := aOK_of (kal1 kok43 (kal1 kok89 (kal1 kok313 (kal1 kok321 kal0)))) (kcl1 ks329_0 (kcl1 ks329_1 (kcl1 ks329_2 (kcl1 ks329_3 (kcl1 ks329_4 kcl0))))) ks329
/-- ColdShodModel.triesWay(IIIII)V -/
def kE330 : aE := (192, 49, ([kvB 0 7, kvB 0 7, kvB 0 7], [], 0, [kvR 102, kvI 0, kvI 1, kvI 2, kvN 230, kvN 4, none, none], []), ([], none), ([], [], none, ([], [])), kvW64)
def kC330_0 : aC := (([kvB 0 7, kvB 0 7, kvB 0 7, kvB 0 1, kvB 0 4], [], 16, [kvR 102, kvI 0, kvI 1, kvI 2, kvN 230, kvN 4, kvI 3, kvI 4], []), ([], []), (336, [(-1, 4)]))
def kC330_1 : aC := (([kvB 0 7, kvB 0 7, kvB 0 7, kvB 0 12], [], 141, [kvR 102, kvI 0, kvI 1, kvI 2, kvN 230, kvN 4, kvI 3, none], []), ([], []), (141, [(-11, 3)]))
def kC330_2 : aC := (([kvB 0 7, kvB 0 7, kvB 0 7, kvB 0 11, (.negSucc 0, .ofNat 7), kvB 1 12], [(102, 8, .inl (5, .ofNat 0))], 195, [kvR 102, kvI 0, kvI 1, kvI 2, kvN 230, kvN 4, kvI 3, kvI 4], []), ([], []), (139, [(-11, 3), (-1, 4)]))
def kC330_3 : aC := (([kvB 0 7, kvB 0 7, kvB 0 7, (.negSucc 0, .ofNat 2147483647)], [(102, 29, .inl (3, .ofNat 0))], 91, [kvR 102, kvI 0, kvI 1, kvI 2, kvN 230, kvN 4, kvN 1, kvN 4], []), ([], []), (166, []))
def kC330_4 : aC := (([kvB 0 7, kvB 0 7, kvB 0 7, kvB 0 4, (.negSucc 0, .ofNat 99)], [(102, 29, .inl (4, .ofNat 0)), (102, 30, .inr (.ofNat 4))], 110, [kvR 102, kvI 0, kvI 1, kvI 2, kvN 230, kvN 4, kvN 1, kvI 3], []), ([], []), (4, [(-1, 3)]))
theorem ks330 : aseg kS krf kB [kE43, kE89, kE314, kE322, kE329] (ksp [(192, 200, 7, 0, 7, 0)]) kE330 [kC330_0, kC330_1, kC330_2, kC330_3, kC330_4] 30000 (none) = true := by decide +kernel
theorem ks330_0 : aseg kS krf kB [kE43, kE89, kE314, kE322, kE329] (ksp [(192, 200, 7, 0, 7, 0)]) kE330 [kC330_0, kC330_1, kC330_2, kC330_3, kC330_4] 30000 (some kC330_0) = true := by decide +kernel
theorem ks330_1 : aseg kS krf kB [kE43, kE89, kE314, kE322, kE329] (ksp [(192, 200, 7, 0, 7, 0)]) kE330 [kC330_0, kC330_1, kC330_2, kC330_3, kC330_4] 30000 (some kC330_1) = true := by decide +kernel
theorem ks330_2 : aseg kS krf kB [kE43, kE89, kE314, kE322, kE329] (ksp [(192, 200, 7, 0, 7, 0)]) kE330 [kC330_0, kC330_1, kC330_2, kC330_3, kC330_4] 30000 (some kC330_2) = true := by decide +kernel
theorem ks330_3 : aseg kS krf kB [kE43, kE89, kE314, kE322, kE329] (ksp [(192, 200, 7, 0, 7, 0)]) kE330 [kC330_0, kC330_1, kC330_2, kC330_3, kC330_4] 30000 (some kC330_3) = true := by decide +kernel
theorem ks330_4 : aseg kS krf kB [kE43, kE89, kE314, kE322, kE329] (ksp [(192, 200, 7, 0, 7, 0)]) kE330 [kC330_0, kC330_1, kC330_2, kC330_3, kC330_4] 30000 (some kC330_4) = true := by decide +kernel
theorem kok330 : aOK kS krf kB kE330 := aOK_of (kal1 kok43 (kal1 kok89 (kal1 kok314 (kal1 kok322 (kal1 kok329 kal0))))) (kcl1 ks330_0 (kcl1 ks330_1 (kcl1 ks330_2 (kcl1 ks330_3 (kcl1 ks330_4 kcl0))))) ks330
/-- ColdShodModel.triesWay(IIIII)V -/
def kE331 : aE := (192, 49, ([kvB 0 7, kvB 0 7, kvB 0 7], [], 0, [kvR 102, kvI 0, kvI 1, kvI 2, kvN 229, kvN 4, none, none], []), ([], none), ([], [], none, ([], [])), kvW64)
def kC331_0 : aC := (([kvB 0 7, kvB 0 7, kvB 0 7, kvB 0 1, kvB 0 4], [], 16, [kvR 102, kvI 0, kvI 1, kvI 2, kvN 229, kvN 4, kvI 3, kvI 4], []), ([], []), (336, [(-1, 4)]))
def kC331_1 : aC := (([kvB 0 7, kvB 0 7, kvB 0 7, kvB 0 12], [], 141, [kvR 102, kvI 0, kvI 1, kvI 2, kvN 229, kvN 4, kvI 3, none], []), ([], []), (141, [(-11, 3)]))
def kC331_2 : aC := (([kvB 0 7, kvB 0 7, kvB 0 7, kvB 0 11, (.negSucc 0, .ofNat 7), kvB 1 12], [(102, 8, .inl (5, .ofNat 0))], 195, [kvR 102, kvI 0, kvI 1, kvI 2, kvN 229, kvN 4, kvI 3, kvI 4], []), ([], []), (139, [(-11, 3), (-1, 4)]))
def kC331_3 : aC := (([kvB 0 7, kvB 0 7, kvB 0 7, (.negSucc 0, .ofNat 2147483647)], [(102, 29, .inl (3, .ofNat 0))], 91, [kvR 102, kvI 0, kvI 1, kvI 2, kvN 229, kvN 4, kvN 1, kvN 4], []), ([], []), (166, []))
def kC331_4 : aC := (([kvB 0 7, kvB 0 7, kvB 0 7, kvB 0 4, (.negSucc 0, .ofNat 99)], [(102, 29, .inl (4, .ofNat 0)), (102, 30, .inr (.ofNat 4))], 110, [kvR 102, kvI 0, kvI 1, kvI 2, kvN 229, kvN 4, kvN 1, kvI 3], []), ([], []), (4, [(-1, 3)]))
theorem ks331 : aseg kS krf kB [kE43, kE89, kE315, kE323, kE329] (ksp [(192, 200, 7, 0, 7, 0)]) kE331 [kC331_0, kC331_1, kC331_2, kC331_3, kC331_4] 30000 (none) = true := by decide +kernel
theorem ks331_0 : aseg kS krf kB [kE43, kE89, kE315, kE323, kE329] (ksp [(192, 200, 7, 0, 7, 0)]) kE331 [kC331_0, kC331_1, kC331_2, kC331_3, kC331_4] 30000 (some kC331_0) = true := by decide +kernel
theorem ks331_1 : aseg kS krf kB [kE43, kE89, kE315, kE323, kE329] (ksp [(192, 200, 7, 0, 7, 0)]) kE331 [kC331_0, kC331_1, kC331_2, kC331_3, kC331_4] 30000 (some kC331_1) = true := by decide +kernel
theorem ks331_2 : aseg kS krf kB [kE43, kE89, kE315, kE323, kE329] (ksp [(192, 200, 7, 0, 7, 0)]) kE331 [kC331_0, kC331_1, kC331_2, kC331_3, kC331_4] 30000 (some kC331_2) = true := by decide +kernel
theorem ks331_3 : aseg kS krf kB [kE43, kE89, kE315, kE323, kE329] (ksp [(192, 200, 7, 0, 7, 0)]) kE331 [kC331_0, kC331_1, kC331_2, kC331_3, kC331_4] 30000 (some kC331_3) = true := by decide +kernel
theorem ks331_4 : aseg kS krf kB [kE43, kE89, kE315, kE323, kE329] (ksp [(192, 200, 7, 0, 7, 0)]) kE331 [kC331_0, kC331_1, kC331_2, kC331_3, kC331_4] 30000 (some kC331_4) = true := by decide +kernel
theorem kok331 : aOK kS krf kB kE331 := aOK_of (kal1 kok43 (kal1 kok89 (kal1 kok315 (kal1 kok323 (kal1 kok329 kal0))))) (kcl1 ks331_0 (kcl1 ks331_1 (kcl1 ks331_2 (kcl1 ks331_3 (kcl1 ks331_4 kcl0))))) ks331
/-- ColdShodModel.triesWay(IIIII)V -/
def kE332 : aE := (192, 50, ([kvB 0 7, kvB 0 7, kvB 0 7], [], 0, [kvR 102, kvI 0, kvI 1, kvI 2, kvN 228, kvN 3, none, none], []), ([], none), ([], [], none, ([], [])), kvW65)
def kC332_0 : aC := (([kvB 0 7, kvB 0 7, kvB 0 7, kvB 0 1, kvB 0 3], [], 16, [kvR 102, kvI 0, kvI 1, kvI 2, kvN 228, kvN 3, kvI 3, kvI 4], []), ([], []), (335, [(-1, 4)]))
def kC332_1 : aC := (([kvB 0 7, kvB 0 7, kvB 0 7, kvB 0 12], [], 141, [kvR 102, kvI 0, kvI 1, kvI 2, kvN 228, kvN 3, kvI 3, none], []), ([], []), (141, [(-11, 3)]))
def kC332_2 : aC := (([kvB 0 7, kvB 0 7, kvB 0 7, kvB 0 11, (.negSucc 0, .ofNat 7), kvB 1 12], [(102, 8, .inl (5, .ofNat 0))], 195, [kvR 102, kvI 0, kvI 1, kvI 2, kvN 228, kvN 3, kvI 3, kvI 4], []), ([], []), (139, [(-11, 3), (-1, 4)]))
def kC332_3 : aC := (([kvB 0 7, kvB 0 7, kvB 0 7, (.negSucc 0, .ofNat 2147483647)], [(102, 29, .inl (3, .ofNat 0))], 91, [kvR 102, kvI 0, kvI 1, kvI 2, kvN 228, kvN 3, kvN 1, kvN 3], []), ([], []), (166, []))
def kC332_4 : aC := (([kvB 0 7, kvB 0 7, kvB 0 7, kvB 0 3, (.negSucc 0, .ofNat 99)], [(102, 29, .inl (4, .ofNat 0)), (102, 30, .inr (.ofNat 3))], 110, [kvR 102, kvI 0, kvI 1, kvI 2, kvN 228, kvN 3, kvN 1, kvI 3], []), ([], []), (3, [(-1, 3)]))
theorem ks332 : aseg kS krf kB [kE43, kE89, kE316, kE324, kE330, kE331] (ksp [(192, 200, 7, 0, 7, 0)]) kE332 [kC332_0, kC332_1, kC332_2, kC332_3, kC332_4] 30000 (none) = true := by decide +kernel
theorem ks332_0 : aseg kS krf kB [kE43, kE89, kE316, kE324, kE330, kE331] (ksp [(192, 200, 7, 0, 7, 0)]) kE332 [kC332_0, kC332_1, kC332_2, kC332_3, kC332_4] 30000 (some kC332_0) = true := by decide +kernel
theorem ks332_1 : aseg kS krf kB [kE43, kE89, kE316, kE324, kE330, kE331] (ksp [(192, 200, 7, 0, 7, 0)]) kE332 [kC332_0, kC332_1, kC332_2, kC332_3, kC332_4] 30000 (some kC332_1) = true := by decide +kernel
theorem ks332_2 : aseg kS krf kB [kE43, kE89, kE316, kE324, kE330, kE331] (ksp [(192, 200, 7, 0, 7, 0)]) kE332 [kC332_0, kC332_1, kC332_2, kC332_3, kC332_4] 30000 (some kC332_2) = true := by decide +kernel
theorem ks332_3 : aseg kS krf kB [kE43, kE89, kE316, kE324, kE330, kE331] (ksp [(192, 200, 7, 0, 7, 0)]) kE332 [kC332_0, kC332_1, kC332_2, kC332_3, kC332_4] 30000 (some kC332_3) = true := by decide +kernel
theorem ks332_4 : aseg kS krf kB [kE43, kE89, kE316, kE324, kE330, kE331] (ksp [(192, 200, 7, 0, 7, 0)]) kE332 [kC332_0, kC332_1, kC332_2, kC332_3, kC332_4] 30000 (some kC332_4) = true := by decide +kernel
theorem kok332 : aOK kS krf kB kE332 := aOK_of (kal1 kok43 (kal1 kok89 (kal1 kok316 (kal1 kok324 (kal1 kok330 (kal1 kok331 kal0)))))) (kcl1 ks332_0 (kcl1 ks332_1 (kcl1 ks332_2 (kcl1 ks332_3 (kcl1 ks332_4 kcl0))))) ks332
