/-! ENTRIES and their checks: printed by a program (wip/ai). -/
/-- ColdShodModel.judge(II)I -/
def kE254 : aE := (205, 47, ([(.negSucc 2147483647, .ofNat 2147483647), (.negSucc 2147483647, .ofNat 2147483647)], [], 0, [some (.inr [102]), some (.inl (.inl (.inl (0, .ofNat 0)))), some (.inl (.inl (.inl (1, .ofNat 0))))], []), ([], none), ([(.negSucc 11, .ofNat 21)], [], some (.inl (.inl (.inl (2, .ofNat 0)))), ([], [])), ([(102, 15), (102, 16), (102, 17), (102, 18), (102, 19), (102, 22), (102, 23), (111, 0), (111, 1), (111, 2), (111, 3), (111, 4), (111, 5)], [112]))
theorem ks254 : aseg kS krf kB [kE148, kE149, kE150, kE151, kE152, kE211, kE153, kE212, kE154, kE213, kE155, kE214, kE156, kE215, kE157, kE216, kE158, kE159, kE160, kE161, kE162, kE218, kE163, kE219, kE164, kE220, kE165, kE221, kE166, kE222, kE167, kE223, kE168, kE169, kE170, kE171, kE172, kE225, kE173, kE226, kE174, kE227, kE175, kE228, kE176, kE229, kE177, kE230, kE178, kE179, kE180, kE181, kE182, kE232, kE183, kE233, kE184, kE234, kE185, kE235, kE186, kE236, kE187, kE237, kE188, kE189, kE190, kE191, kE192, kE239, kE193, kE240, kE194, kE241, kE195, kE242, kE196, kE243, kE197, kE244, kE198, kE199, kE200, kE201, kE202, kE246, kE203, kE247, kE204, kE248, kE205, kE249, kE206, kE250, kE207, kE251, kE208, kE209] (ksp [(205, 0, 1, 0, 59, 0)]) kE254 [] 30000 (none) = true := by decide +kernel
set_option maxRecDepth 100000 in
theorem kok254 : aOK kS krf kB kE254 := aOK_of (kal1 kok148 (kal1 kok149 (kal1 kok150 (kal1 kok151 (kal1 kok152 (kal1 kok211 (kal1 kok153 (kal1 kok212 (kal1 kok154 (kal1 kok213 (kal1 kok155 (kal1 kok214 (kal1 kok156 (kal1 kok215 (kal1 kok157 (kal1 kok216 (kal1 kok158 (kal1 kok159 (kal1 kok160 (kal1 kok161 (kal1 kok162 (kal1 kok218 (kal1 kok163 (kal1 kok219 (kal1 kok164 (kal1 kok220 (kal1 kok165 (kal1 kok221 (kal1 kok166 (kal1 kok222 (kal1 kok167 (kal1 kok223 (kal1 kok168 (kal1 kok169 (kal1 kok170 (kal1 kok171 (kal1 kok172 (kal1 kok225 (kal1 kok173 (kal1 kok226 (kal1 kok174 (kal1 kok227 (kal1 kok175 (kal1 kok228 (kal1 kok176 (kal1 kok229 (kal1 kok177 (kal1 kok230 (kal1 kok178 (kal1 kok179 (kal1 kok180 (kal1 kok181 (kal1 kok182 (kal1 kok232 (kal1 kok183 (kal1 kok233 (kal1 kok184 (kal1 kok234 (kal1 kok185 (kal1 kok235 (kal1 kok186 (kal1 kok236 (kal1 kok187 (kal1 kok237 (kal1 kok188 (kal1 kok189 (kal1 kok190 (kal1 kok191 (kal1 kok192 (kal1 kok239 (kal1 kok193 (kal1 kok240 (kal1 kok194 (kal1 kok241 (kal1 kok195 (kal1 kok242 (kal1 kok196 (kal1 kok243 (kal1 kok197 (kal1 kok244 (kal1 kok198 (kal1 kok199 (kal1 kok200 (kal1 kok201 (kal1 kok202 (kal1 kok246 (kal1 kok203 (kal1 kok247 (kal1 kok204 (kal1 kok248 (kal1 kok205 (kal1 kok249 (kal1 kok206 (kal1 kok250 (kal1 kok207 (kal1 kok251 (kal1 kok208 (kal1 kok209 kal0)))))))))))))))))))))))))))))))))))))))))))))))))))))))))))))))))))))))))))))))))))))))))))))))))) kcl0 ks254
/-- ColdShod$Country.fewestYokes()I -/
def kE255 : aE := (31, 0, ([], [], 0, [kvR 7, none, none, none], []), ([], none), ([kvA], [], kvI 0, ([], [])), kvW0)
def kC255_0 : aC := (([kvA, kvB 0 8], [], 4, [kvR 7, kvI 0, kvI 1, none], []), ([], []), (20, [(-1, 1)]))
def kC255_1 : aC := (([kvA, kvA, kvB 0 6], [], 36, [kvR 7, kvI 0, kvI 1, kvI 2], []), ([], []), (6, [(-1, 2)]))
theorem ks255 : aseg kS krf kB [] (ksp []) kE255 [kC255_0, kC255_1] 30000 (none) = true := by decide +kernel
theorem ks255_0 : aseg kS krf kB [] (ksp []) kE255 [kC255_0, kC255_1] 30000 (some kC255_0) = true := by decide +kernel
theorem ks255_1 : aseg kS krf kB [] (ksp []) kE255 [kC255_0, kC255_1] 30000 (some kC255_1) = true := by decide +kernel
theorem kok255 : aOK kS krf kB kE255 := aOK_of kal0 (kcl1 ks255_0 (kcl1 ks255_1 kcl0)) ks255
/-- ColdShod$Country.allClash(I)Z -/
def kE256 : aE := (33, 0, ([kvB 1 2147483647], [], 0, [kvR 7, kvI 0, none, none, none], []), ([], none), ([kvB 0 1], [], kvI 1, ([], [])), kvW0)
def kC256_0 : aC := (([kvB 1 2147483647, kvA, kvB 0 8], [], 4, [kvR 7, kvI 0, kvI 1, kvI 2, none], []), ([], []), (8, [(-1, 2)]))
theorem ks256 : aseg kS krf kB [] (ksp []) kE256 [kC256_0] 30000 (none) = true := by decide +kernel
theorem ks256_0 : aseg kS krf kB [] (ksp []) kE256 [kC256_0] 30000 (some kC256_0) = true := by decide +kernel
theorem kok256 : aOK kS krf kB kE256 := aOK_of kal0 (kcl1 ks256_0 kcl0) ks256
/-- ColdShod$Country.greatestClash()I -/
def kE257 : aE := (32, 1, ([], [], 0, [kvR 7, none, none], []), ([], none), ([kvB 0 2147483646], [], kvI 0, ([], [])), kvW0)
def kC257_0 : aC := (([kvB 0 2147483646, kvB 1 2147483647], [], 4, [kvR 7, kvI 0, kvI 1], []), ([], []), (2147483647, [(-1, 1)]))
theorem ks257 : aseg kS krf kB [kE256] (ksp []) kE257 [kC257_0] 30000 (none) = true := by decide +kernel
theorem ks257_0 : aseg kS krf kB [kE256] (ksp []) kE257 [kC257_0] 30000 (some kC257_0) = true := by decide +kernel
theorem kok257 : aOK kS krf kB kE257 := aOK_of (kal1 kok256 kal0) (kcl1 ks257_0 kcl0) ks257
/-- ColdShod.yokes(I)I -/
def kE258 : aE := (109, 2, ([(.negSucc 2147483647, .ofNat 2147483647)], [], 0, [some (.inr [6]), some (.inl (.inl (.inl (0, .ofNat 0)))), none], []), ([], none), ([(.negSucc 2147483647, .ofNat 2147483647)], [], some (.inl (.inl (.inl (1, .ofNat 0)))), ([], [])), ([], []))
theorem ks258 : aseg kS krf kB [kE255, kE257] (ksp []) kE258 [] 30000 (none) = true := by decide +kernel
theorem kok258 : aOK kS krf kB kE258 := aOK_of (kal1 kok255 (kal1 kok257 kal0)) kcl0 ks258
/-- ColdShodModel.bitsOf(I)I -/
def kE259 : aE := (145, 0, ([kvB 0 2147483647], [], 0, [kvI 0, none, none], []), ([], none), ([kvA], [], kvI 1, ([], [])), kvW0)
def kC259_0 : aC := (([kvB 0 2147483647, kvA, kvB 0 12], [], 4, [kvI 0, kvI 1, kvI 2], []), ([], []), (12, [(-1, 2)]))
theorem ks259 : aseg kS krf kB [] (ksp []) kE259 [kC259_0] 30000 (none) = true := by decide +kernel
theorem ks259_0 : aseg kS krf kB [] (ksp []) kE259 [kC259_0] 30000 (some kC259_0) = true := by decide +kernel
theorem kok259 : aOK kS krf kB kE259 := aOK_of kal0 (kcl1 ks259_0 kcl0) ks259
/-- ColdShodModel.yokes(I)I -/
def kE260 : aE := (202, 2, ([(.negSucc 2147483647, .ofNat 2147483647)], [], 0, [some (.inr [102]), some (.inl (.inl (.inl (0, .ofNat 0)))), none, none, none, none, none], []), ([], none), ([(.negSucc 2147483647, .ofNat 2147483647)], [], some (.inl (.inl (.inl (1, .ofNat 0)))), ([], [])), ([], []))
def kC260_0 : aC := (([kvB 0 0, kvA, (.negSucc 0, .ofNat 6), kvB 0 6], [], 25, [kvR 102, kvI 0, kvI 1, kvI 2, kvI 3, none, none], []), ([], []), (75, [(-11, 3)]))
def kC260_1 : aC := (([kvB 1 2, kvB 0 2147483646, kvB 0 2147483647], [], 111, [kvR 102, kvI 0, kvI 1, kvI 2, none, none, none], []), ([], []), (944892804998, [(-440, 2)]))
def kC260_2 : aC := (([kvB 0 0, kvA, (.negSucc 0, .ofNat 6), kvB 0 5, kvB 0 1, kvB 0 8], [], 38, [kvR 102, kvI 0, kvI 1, kvI 2, kvI 3, kvI 4, kvI 5], []), ([], []), (74, [(-11, 3), (-1, 5)]))
def kC260_3 : aC := (([kvB 1 2, kvB 0 2147483646, kvB 0 2147483646, kvB 0 1, kvB 0 8], [], 142, [kvR 102, kvI 0, kvI 1, kvI 2, kvI 3, kvI 4, none], []), ([], []), (944892804768, [(-440, 2), (110, 3), (-10, 4)]))
def kC260_4 : aC := (([kvB 1 2, kvB 0 2147483646, kvB 0 2147483646, kvB 0 1, kvB 0 7, kvB 0 7, kvB 1 8], [(102, 7, .inl (6, .ofNat 0))], 154, [kvR 102, kvI 0, kvI 1, kvI 2, kvI 3, kvI 4, kvI 5], []), ([], []), (944892804767, [(-440, 2), (110, 3), (-10, 4), (-1, 5)]))
theorem ks260 : aseg kS krf kB [kE259] (ksp []) kE260 [kC260_0, kC260_1, kC260_2, kC260_3, kC260_4] 30000 (none) = true := by decide +kernel
theorem ks260_0 : aseg kS krf kB [kE259] (ksp []) kE260 [kC260_0, kC260_1, kC260_2, kC260_3, kC260_4] 30000 (some kC260_0) = true := by decide +kernel
theorem ks260_1 : aseg kS krf kB [kE259] (ksp []) kE260 [kC260_0, kC260_1, kC260_2, kC260_3, kC260_4] 30000 (some kC260_1) = true := by decide +kernel
theorem ks260_2 : aseg kS krf kB [kE259] (ksp []) kE260 [kC260_0, kC260_1, kC260_2, kC260_3, kC260_4] 30000 (some kC260_2) = true := by decide +kernel
theorem ks260_3 : aseg kS krf kB [kE259] (ksp []) kE260 [kC260_0, kC260_1, kC260_2, kC260_3, kC260_4] 30000 (some kC260_3) = true := by decide +kernel
theorem ks260_4 : aseg kS krf kB [kE259] (ksp []) kE260 [kC260_0, kC260_1, kC260_2, kC260_3, kC260_4] 30000 (some kC260_4) = true := by decide +kernel
theorem kok260 : aOK kS krf kB kE260 := aOK_of (kal1 kok259 kal0) (kcl1 ks260_0 (kcl1 ks260_1 (kcl1 ks260_2 (kcl1 ks260_3 (kcl1 ks260_4 kcl0))))) ks260
/-- ColdShod$Country.isSettled()Z -/
def kE261 : aE := (30, 2, ([], [], 0, [kvR 7, none, none, none], []), ([], none), ([kvB 0 1], [], kvI 0, ([], [])), kvW2)
def kC261_0 : aC := (([kvB 0 8], [], 11, [kvR 7, kvI 0, none, none], []), ([], []), (108, [(-1, 0)]))
def kC261_1 : aC := (([kvB 0 6], [], 68, [kvR 7, kvI 0, none, none], []), ([], []), (75, [(-11, 0)]))
def kC261_2 : aC := (([kvB 0 5, kvB 0 8, kvB 1 6], [(7, 6, .inl (2, .ofNat 0))], 78, [kvR 7, kvI 0, kvI 1, none], []), ([], []), (74, [(-11, 0), (-1, 1)]))
theorem ks261 : aseg kS krf kB [kE32] (ksp []) kE261 [kC261_0, kC261_1, kC261_2] 30000 (none) = true := by decide +kernel
theorem ks261_0 : aseg kS krf kB [kE32] (ksp []) kE261 [kC261_0, kC261_1, kC261_2] 30000 (some kC261_0) = true := by decide +kernel
theorem ks261_1 : aseg kS krf kB [kE32] (ksp []) kE261 [kC261_0, kC261_1, kC261_2] 30000 (some kC261_1) = true := by decide +kernel
theorem ks261_2 : aseg kS krf kB [kE32] (ksp []) kE261 [kC261_0, kC261_1, kC261_2] 30000 (some kC261_2) = true := by decide +kernel
theorem kok261 : aOK kS krf kB kE261 := aOK_of (kal1 kok32 kal0) (kcl1 ks261_0 (kcl1 ks261_1 (kcl1 ks261_2 kcl0))) ks261
/-- ColdShod.settled()I -/
def kE262 : aE := (108, 3, ([], [], 0, [some (.inr [6])], []), ([], none), ([(.ofNat 0, .ofNat 1)], [], some (.inl (.inl (.inl (0, .ofNat 0)))), ([], [])), ([], [12]))
theorem ks262 : aseg kS krf kB [kE261] (ksp []) kE262 [] 30000 (none) = true := by decide +kernel
theorem kok262 : aOK kS krf kB kE262 := aOK_of (kal1 kok261 kal0) kcl0 ks262
/-- ColdShodModel.ideaOf(I)I -/
def kE263 : aE := (197, 0, ([kvB 0 5], [], 0, [kvR 102, kvI 0, none], []), ([], none), ([(.negSucc 0, .ofNat 7)], [], kvI 1, ([], [])), kvW0)
def kC263_0 : aC := (([kvB 0 5, kvB 0 8], [], 2, [kvR 102, kvI 0, kvI 1], []), ([], []), (8, [(-1, 1)]))
theorem ks263 : aseg kS krf kB [] (ksp []) kE263 [kC263_0] 30000 (none) = true := by decide +kernel
theorem ks263_0 : aseg kS krf kB [] (ksp []) kE263 [kC263_0] 30000 (some kC263_0) = true := by decide +kernel
theorem kok263 : aOK kS krf kB kE263 := aOK_of kal0 (kcl1 ks263_0 kcl0) ks263
/-- ColdShodModel.settled()I -/
def kE264 : aE := (200, 2, ([], [], 0, [some (.inr [102]), none, none, none, none, none], []), ([], none), ([(.ofNat 0, .ofNat 1)], [], some (.inl (.inl (.inl (0, .ofNat 0)))), ([], [])), ([], [116]))
def kC264_0 : aC := (([kvB 0 8], [], 2, [kvR 102, kvI 0, none, none, none, none], []), ([], []), (230, [(-1, 0)]))
def kC264_1 : aC := (([kvB 0 8], [], 33, [kvR 102, kvI 0, none, none, none, none], []), ([], []), (199, [(-10, 0)]))
def kC264_2 : aC := (([kvB 0 7, kvB 0 7, kvB 1 8], [(102, 7, .inl (2, .ofNat 0))], 43, [kvR 102, kvI 0, kvI 1, none, none, none], []), ([], []), (198, [(-10, 0), (-1, 1)]))
def kC264_3 : aC := (([kvB 0 6], [], 88, [kvR 102, kvI 0, none, none, none, none], []), ([], []), (75, [(-11, 0)]))
def kC264_4 : aC := (([kvB 0 5, (.negSucc 0, .ofNat 7), kvB 0 8, kvB 1 6], [(102, 6, .inl (3, .ofNat 0))], 104, [kvR 102, kvI 0, kvI 1, kvI 2, none, none], []), ([], []), (74, [(-11, 0), (-1, 2)]))
theorem ks264 : aseg kS krf kB [kE263] (ksp []) kE264 [kC264_0, kC264_1, kC264_2, kC264_3, kC264_4] 30000 (none) = true := by decide +kernel
theorem ks264_0 : aseg kS krf kB [kE263] (ksp []) kE264 [kC264_0, kC264_1, kC264_2, kC264_3, kC264_4] 30000 (some kC264_0) = true := by decide +kernel
theorem ks264_1 : aseg kS krf kB [kE263] (ksp []) kE264 [kC264_0, kC264_1, kC264_2, kC264_3, kC264_4] 30000 (some kC264_1) = true := by decide +kernel
theorem ks264_2 : aseg kS krf kB [kE263] (ksp []) kE264 [kC264_0, kC264_1, kC264_2, kC264_3, kC264_4] 30000 (some kC264_2) = true := by decide +kernel
theorem ks264_3 : aseg kS krf kB [kE263] (ksp []) kE264 [kC264_0, kC264_1, kC264_2, kC264_3, kC264_4] 30000 (some kC264_3) = true := by decide +kernel
theorem ks264_4 : aseg kS krf kB [kE263] (ksp []) kE264 [kC264_0, kC264_1, kC264_2, kC264_3, kC264_4] 30000 (some kC264_4) = true := by decide +kernel
theorem kok264 : aOK kS krf kB kE264 := aOK_of (kal1 kok263 kal0) (kcl1 ks264_0 (kcl1 ks264_1 (kcl1 ks264_2 (kcl1 ks264_3 (kcl1 ks264_4 kcl0))))) ks264
/-- ColdShod.asks(I)I -/
def kE265 : aE := (107, 4, ([(.negSucc 2147483647, .ofNat 2147483647)], [], 0, [some (.inr [6]), some (.inl (.inl (.inl (0, .ofNat 0))))], []), ([], none), ([(.negSucc 2147483647, .ofNat 2147483647)], [], some (.inl (.inl (.inl (1, .ofNat 0)))), ([], [])), ([], [12]))
theorem ks265 : aseg kS krf kB [kE35] (ksp []) kE265 [] 30000 (none) = true := by decide +kernel
theorem kok265 : aOK kS krf kB kE265 := aOK_of (kal1 kok35 kal0) kcl0 ks265
/-- ColdShodModel.asks(I)I -/
def kE266 : aE := (199, 3, ([(.negSucc 2147483647, .ofNat 2147483647)], [], 0, [some (.inr [102]), some (.inl (.inl (.inl (0, .ofNat 0))))], []), ([], none), ([(.negSucc 1, .ofNat 7)], [], some (.inl (.inl (.inl (1, .ofNat 0)))), ([], [])), ([], [116, 117]))
theorem ks266 : aseg kS krf kB [kE37, kE263] (ksp []) kE266 [] 30000 (none) = true := by decide +kernel
theorem kok266 : aOK kS krf kB kE266 := aOK_of (kal1 kok37 (kal1 kok263 kal0)) kcl0 ks266
/-- ColdShod.reach(II)I -/
def kE267 : aE := (106, 2, ([(.negSucc 2147483647, .ofNat 2147483647), (.negSucc 2147483647, .ofNat 2147483647)], [], 0, [some (.inr [6]), some (.inl (.inl (.inl (0, .ofNat 0)))), some (.inl (.inl (.inl (1, .ofNat 0)))), none, none, none, none, none, none], []), ([], none), ([(.negSucc 2147483647, .ofNat 2147483647)], [], some (.inl (.inl (.inl (2, .ofNat 0)))), ([], [])), ([], []))
def kC267_0 : aC := (([kvB 0 7, kvB 0 7, kvA, kvB 0 8, kvB 1 8], [(7, 7, .inl (4, .ofNat 0))], 39, [kvR 6, kvI 0, kvI 1, some (.inr [20, 21, 22, 23, 24, 25, 26, 27]), kvI 2, kvI 3, none, none, none], []), ([], []), (133, [(-15, 3)]))
def kC267_1 : aC := (([kvB 0 7, kvB 0 7, kvA, kvB 0 7, kvB 0 12, kvB 1 8], [(7, 7, .inl (5, .ofNat 0))], 49, [kvR 6, kvI 0, kvI 1, some (.inr [20, 21, 22, 23, 24, 25, 26, 27]), kvI 2, kvI 3, kvI 4, none, none], []), ([], []), (132, [(-15, 3), (-1, 4)]))
theorem ks267 : aseg kS krf kB [] (ksp []) kE267 [kC267_0, kC267_1] 30000 (none) = true := by decide +kernel
theorem ks267_0 : aseg kS krf kB [] (ksp []) kE267 [kC267_0, kC267_1] 30000 (some kC267_0) = true := by decide +kernel
theorem ks267_1 : aseg kS krf kB [] (ksp []) kE267 [kC267_0, kC267_1] 30000 (some kC267_1) = true := by decide +kernel
theorem kok267 : aOK kS krf kB kE267 := aOK_of kal0 (kcl1 ks267_0 (kcl1 ks267_1 kcl0)) ks267
/-- ColdShodModel.reach(II)I -/
def kE268 : aE := (194, 2, ([(.negSucc 2147483647, .ofNat 2147483647), (.negSucc 2147483647, .ofNat 2147483647)], [], 0, [some (.inr [102]), some (.inl (.inl (.inl (0, .ofNat 0)))), some (.inl (.inl (.inl (1, .ofNat 0)))), none, none, none], []), ([], none), ([(.negSucc 2147483647, .ofNat 2147483647)], [], some (.inl (.inl (.inl (2, .ofNat 0)))), ([], [])), ([], []))
def kC268_0 : aC := (([kvB 0 7, kvB 0 7, kvA, kvB 0 8, kvB 1 8], [(102, 7, .inl (4, .ofNat 0))], 26, [kvR 102, kvI 0, kvI 1, kvI 2, kvI 3, none], []), ([], []), (133, [(-15, 3)]))
def kC268_1 : aC := (([kvB 0 7, kvB 0 7, kvA, kvB 0 7, kvB 0 12, kvB 1 8], [(102, 7, .inl (5, .ofNat 0))], 36, [kvR 102, kvI 0, kvI 1, kvI 2, kvI 3, kvI 4], []), ([], []), (132, [(-15, 3), (-1, 4)]))
theorem ks268 : aseg kS krf kB [] (ksp []) kE268 [kC268_0, kC268_1] 30000 (none) = true := by decide +kernel
theorem ks268_0 : aseg kS krf kB [] (ksp []) kE268 [kC268_0, kC268_1] 30000 (some kC268_0) = true := by decide +kernel
theorem ks268_1 : aseg kS krf kB [] (ksp []) kE268 [kC268_0, kC268_1] 30000 (some kC268_1) = true := by decide +kernel
theorem kok268 : aOK kS krf kB kE268 := aOK_of kal0 (kcl1 ks268_0 (kcl1 ks268_1 kcl0)) ks268
/-- ColdShod$Country.wearOf(LColdShod$Idea;LColdShod$Road;)I -/
def kE269 : aE := (23, 2, ([], [], 0, [kvR 7, kvR 64, some (.inr [28, 29, 30, 31, 32, 33, 34, 35, 36, 37, 38, 39])], []), ([], none), ([kvB 0 9], [], kvI 0, ([], [])), kvW5)
theorem ks269 : aseg kS krf kB [kE39] (ksp [(23, 0, 1, -1000, 1000, 0)]) kE269 [] 30000 (none) = true := by decide +kernel
theorem kok269 : aOK kS krf kB kE269 := aOK_of (kal1 kok39 kal0) kcl0 ks269
/-- ColdShod$Country.travel(LColdShod$Idea;LColdShod$Road;)I -/
def kE270 : aE := (24, 3, ([], [], 0, [kvR 7, kvR 64, some (.inr [28, 29, 30, 31, 32, 33, 34, 35, 36, 37, 38, 39]), none, none], []), ([], none), ([(.negSucc 1999999999, .ofNat 100000000)], [], kvI 0, ([], [])), kvW43)
def kC270_0 : aC := (([kvB 0 9, kvB 1 100000001, (.negSucc 1999999999, .ofNat 99)], [(64, 2, .inl (2, .ofNat 0))], 20, [kvR 7, kvR 64, some (.inr [28, 29, 30, 31, 32, 33, 34, 35, 36, 37, 38, 39]), kvI 0, kvI 1], []), ([], []), (100000001, [(-1, 1)]))
theorem ks270 : aseg kS krf kB [kE269] (ksp []) kE270 [kC270_0] 30000 (none) = true := by decide +kernel
theorem ks270_0 : aseg kS krf kB [kE269] (ksp []) kE270 [kC270_0] 30000 (some kC270_0) = true := by decide +kernel
theorem kok270 : aOK kS krf kB kE270 := aOK_of (kal1 kok269 kal0) (kcl1 ks270_0 kcl0) ks270
/-- ColdShod$Country.wearOf(LColdShod$Idea;LColdShod$Road;)I -/
def kE271 : aE := (23, 2, ([], [], 0, [kvR 7, kvR 65, some (.inr [28, 29, 30, 31, 32, 33, 34, 35, 36, 37, 38, 39])], []), ([], none), ([kvB 0 9], [], kvI 0, ([], [])), kvW5)
theorem ks271 : aseg kS krf kB [kE39] (ksp [(23, 0, 1, -1000, 1000, 0)]) kE271 [] 30000 (none) = true := by decide +kernel
theorem kok271 : aOK kS krf kB kE271 := aOK_of (kal1 kok39 kal0) kcl0 ks271
/-- ColdShod$Country.travel(LColdShod$Idea;LColdShod$Road;)I -/
def kE272 : aE := (24, 3, ([], [], 0, [kvR 7, kvR 65, some (.inr [28, 29, 30, 31, 32, 33, 34, 35, 36, 37, 38, 39]), none, none], []), ([], none), ([(.negSucc 1999999999, .ofNat 100000000)], [], kvI 0, ([], [])), kvW44)
def kC272_0 : aC := (([kvB 0 9, kvB 1 100000001, (.negSucc 1999999999, .ofNat 99)], [(65, 2, .inl (2, .ofNat 0))], 20, [kvR 7, kvR 65, some (.inr [28, 29, 30, 31, 32, 33, 34, 35, 36, 37, 38, 39]), kvI 0, kvI 1], []), ([], []), (100000001, [(-1, 1)]))
theorem ks272 : aseg kS krf kB [kE271] (ksp []) kE272 [kC272_0] 30000 (none) = true := by decide +kernel
theorem ks272_0 : aseg kS krf kB [kE271] (ksp []) kE272 [kC272_0] 30000 (some kC272_0) = true := by decide +kernel
theorem kok272 : aOK kS krf kB kE272 := aOK_of (kal1 kok271 kal0) (kcl1 ks272_0 kcl0) ks272
/-- ColdShod$Country.wearOf(LColdShod$Idea;LColdShod$Road;)I -/
def kE273 : aE := (23, 2, ([], [], 0, [kvR 7, kvR 66, some (.inr [28, 29, 30, 31, 32, 33, 34, 35, 36, 37, 38, 39])], []), ([], none), ([kvB 0 9], [], kvI 0, ([], [])), kvW5)
theorem ks273 : aseg kS krf kB [kE39] (ksp [(23, 0, 1, -1000, 1000, 0)]) kE273 [] 30000 (none) = true := by decide +kernel
theorem kok273 : aOK kS krf kB kE273 := aOK_of (kal1 kok39 kal0) kcl0 ks273
/-- ColdShod$Country.travel(LColdShod$Idea;LColdShod$Road;)I -/
def kE274 : aE := (24, 3, ([], [], 0, [kvR 7, kvR 66, some (.inr [28, 29, 30, 31, 32, 33, 34, 35, 36, 37, 38, 39]), none, none], []), ([], none), ([(.negSucc 1999999999, .ofNat 100000000)], [], kvI 0, ([], [])), kvW45)
def kC274_0 : aC := (([kvB 0 9, kvB 1 100000001, (.negSucc 1999999999, .ofNat 99)], [(66, 2, .inl (2, .ofNat 0))], 20, [kvR 7, kvR 66, some (.inr [28, 29, 30, 31, 32, 33, 34, 35, 36, 37, 38, 39]), kvI 0, kvI 1], []), ([], []), (100000001, [(-1, 1)]))
theorem ks274 : aseg kS krf kB [kE273] (ksp []) kE274 [kC274_0] 30000 (none) = true := by decide +kernel
theorem ks274_0 : aseg kS krf kB [kE273] (ksp []) kE274 [kC274_0] 30000 (some kC274_0) = true := by decide +kernel
theorem kok274 : aOK kS krf kB kE274 := aOK_of (kal1 kok273 kal0) (kcl1 ks274_0 kcl0) ks274
/-- ColdShod$Country.wearOf(LColdShod$Idea;LColdShod$Road;)I -/
def kE275 : aE := (23, 2, ([], [], 0, [kvR 7, kvR 67, some (.inr [28, 29, 30, 31, 32, 33, 34, 35, 36, 37, 38, 39])], []), ([], none), ([kvB 0 9], [], kvI 0, ([], [])), kvW5)
theorem ks275 : aseg kS krf kB [kE39] (ksp [(23, 0, 1, -1000, 1000, 0)]) kE275 [] 30000 (none) = true := by decide +kernel
theorem kok275 : aOK kS krf kB kE275 := aOK_of (kal1 kok39 kal0) kcl0 ks275
/-- ColdShod$Country.travel(LColdShod$Idea;LColdShod$Road;)I -/
def kE276 : aE := (24, 3, ([], [], 0, [kvR 7, kvR 67, some (.inr [28, 29, 30, 31, 32, 33, 34, 35, 36, 37, 38, 39]), none, none], []), ([], none), ([(.negSucc 1999999999, .ofNat 100000000)], [], kvI 0, ([], [])), kvW46)
def kC276_0 : aC := (([kvB 0 9, kvB 1 100000001, (.negSucc 1999999999, .ofNat 99)], [(67, 2, .inl (2, .ofNat 0))], 20, [kvR 7, kvR 67, some (.inr [28, 29, 30, 31, 32, 33, 34, 35, 36, 37, 38, 39]), kvI 0, kvI 1], []), ([], []), (100000001, [(-1, 1)]))
theorem ks276 : aseg kS krf kB [kE275] (ksp []) kE276 [kC276_0] 30000 (none) = true := by decide +kernel
theorem ks276_0 : aseg kS krf kB [kE275] (ksp []) kE276 [kC276_0] 30000 (some kC276_0) = true := by decide +kernel
theorem kok276 : aOK kS krf kB kE276 := aOK_of (kal1 kok275 kal0) (kcl1 ks276_0 kcl0) ks276
/-- ColdShod$Country.wearOf(LColdShod$Idea;LColdShod$Road;)I -/
def kE277 : aE := (23, 2, ([], [], 0, [kvR 7, kvR 68, some (.inr [28, 29, 30, 31, 32, 33, 34, 35, 36, 37, 38, 39])], []), ([], none), ([kvB 0 9], [], kvI 0, ([], [])), kvW5)
theorem ks277 : aseg kS krf kB [kE39] (ksp [(23, 0, 1, -1000, 1000, 0)]) kE277 [] 30000 (none) = true := by decide +kernel
theorem kok277 : aOK kS krf kB kE277 := aOK_of (kal1 kok39 kal0) kcl0 ks277
/-- ColdShod$Country.travel(LColdShod$Idea;LColdShod$Road;)I -/
def kE278 : aE := (24, 3, ([], [], 0, [kvR 7, kvR 68, some (.inr [28, 29, 30, 31, 32, 33, 34, 35, 36, 37, 38, 39]), none, none], []), ([], none), ([(.negSucc 1999999999, .ofNat 100000000)], [], kvI 0, ([], [])), kvW47)
def kC278_0 : aC := (([kvB 0 9, kvB 1 100000001, (.negSucc 1999999999, .ofNat 99)], [(68, 2, .inl (2, .ofNat 0))], 20, [kvR 7, kvR 68, some (.inr [28, 29, 30, 31, 32, 33, 34, 35, 36, 37, 38, 39]), kvI 0, kvI 1], []), ([], []), (100000001, [(-1, 1)]))
theorem ks278 : aseg kS krf kB [kE277] (ksp []) kE278 [kC278_0] 30000 (none) = true := by decide +kernel
theorem ks278_0 : aseg kS krf kB [kE277] (ksp []) kE278 [kC278_0] 30000 (some kC278_0) = true := by decide +kernel
theorem kok278 : aOK kS krf kB kE278 := aOK_of (kal1 kok277 kal0) (kcl1 ks278_0 kcl0) ks278
/-- ColdShod$Country.wearOf(LColdShod$Idea;LColdShod$Road;)I -/
def kE279 : aE := (23, 2, ([], [], 0, [kvR 7, kvR 69, some (.inr [28, 29, 30, 31, 32, 33, 34, 35, 36, 37, 38, 39])], []), ([], none), ([kvB 0 9], [], kvI 0, ([], [])), kvW5)
theorem ks279 : aseg kS krf kB [kE39] (ksp [(23, 0, 1, -1000, 1000, 0)]) kE279 [] 30000 (none) = true := by decide +kernel
theorem kok279 : aOK kS krf kB kE279 := aOK_of (kal1 kok39 kal0) kcl0 ks279
/-- ColdShod$Country.travel(LColdShod$Idea;LColdShod$Road;)I -/
def kE280 : aE := (24, 3, ([], [], 0, [kvR 7, kvR 69, some (.inr [28, 29, 30, 31, 32, 33, 34, 35, 36, 37, 38, 39]), none, none], []), ([], none), ([(.negSucc 1999999999, .ofNat 100000000)], [], kvI 0, ([], [])), kvW48)
def kC280_0 : aC := (([kvB 0 9, kvB 1 100000001, (.negSucc 1999999999, .ofNat 99)], [(69, 2, .inl (2, .ofNat 0))], 20, [kvR 7, kvR 69, some (.inr [28, 29, 30, 31, 32, 33, 34, 35, 36, 37, 38, 39]), kvI 0, kvI 1], []), ([], []), (100000001, [(-1, 1)]))
theorem ks280 : aseg kS krf kB [kE279] (ksp []) kE280 [kC280_0] 30000 (none) = true := by decide +kernel
theorem ks280_0 : aseg kS krf kB [kE279] (ksp []) kE280 [kC280_0] 30000 (some kC280_0) = true := by decide +kernel
theorem kok280 : aOK kS krf kB kE280 := aOK_of (kal1 kok279 kal0) (kcl1 ks280_0 kcl0) ks280
/-- ColdShod$Country.wearOf(LColdShod$Idea;LColdShod$Road;)I -/
def kE281 : aE := (23, 2, ([], [], 0, [kvR 7, kvR 70, some (.inr [28, 29, 30, 31, 32, 33, 34, 35, 36, 37, 38, 39])], []), ([], none), ([kvB 0 9], [], kvI 0, ([], [])), kvW5)
theorem ks281 : aseg kS krf kB [kE39] (ksp [(23, 0, 1, -1000, 1000, 0)]) kE281 [] 30000 (none) = true := by decide +kernel
theorem kok281 : aOK kS krf kB kE281 := aOK_of (kal1 kok39 kal0) kcl0 ks281
/-- ColdShod$Country.travel(LColdShod$Idea;LColdShod$Road;)I -/
def kE282 : aE := (24, 3, ([], [], 0, [kvR 7, kvR 70, some (.inr [28, 29, 30, 31, 32, 33, 34, 35, 36, 37, 38, 39]), none, none], []), ([], none), ([(.negSucc 1999999999, .ofNat 100000000)], [], kvI 0, ([], [])), kvW49)
def kC282_0 : aC := (([kvB 0 9, kvB 1 100000001, (.negSucc 1999999999, .ofNat 99)], [(70, 2, .inl (2, .ofNat 0))], 20, [kvR 7, kvR 70, some (.inr [28, 29, 30, 31, 32, 33, 34, 35, 36, 37, 38, 39]), kvI 0, kvI 1], []), ([], []), (100000001, [(-1, 1)]))
theorem ks282 : aseg kS krf kB [kE281] (ksp []) kE282 [kC282_0] 30000 (none) = true := by decide +kernel
theorem ks282_0 : aseg kS krf kB [kE281] (ksp []) kE282 [kC282_0] 30000 (some kC282_0) = true := by decide +kernel
theorem kok282 : aOK kS krf kB kE282 := aOK_of (kal1 kok281 kal0) (kcl1 ks282_0 kcl0) ks282
/-- ColdShod$WayPlan.follow(LColdShod$Country;IIII)V -/
def kE283 : aE := (90, 1, ([kvB 0 2147483647, kvB 0 7, kvA], [], 0, [kvR 59, kvR 7, kvI 0, kvI 1, kvI 2, kvN 7, none, none, none], []), ([], none), ([], [], none, ([], [])), kvW50)
theorem ks283 : aseg kS krf kB [] (ksp []) kE283 [] 30000 (none) = true := by decide +kernel
theorem kok283 : aOK kS krf kB kE283 := aOK_of kal0 kcl0 ks283
/-- ColdShod$WayPlan.follow(LColdShod$Country;IIII)V -/
def kE284 : aE := (90, 4, ([kvB 0 2147483647, kvB 0 7, kvA], [], 0, [kvR 59, kvR 7, kvI 0, kvI 1, kvI 2, kvN 6, none, none, none], []), ([], none), ([], [], none, ([], [])), kvW51)
def kC284_0 : aC := (([kvB 0 2147483647, kvB 0 7, kvA, kvB 0 12], [], 32, [kvR 59, kvR 7, kvI 0, kvI 1, kvI 2, kvN 6, kvI 3, none, none], []), ([], []), (12, [(-1, 3)]))
theorem ks284 : aseg kS krf kB [kE282, kE283] (ksp []) kE284 [kC284_0] 30000 (none) = true := by decide +kernel
theorem ks284_0 : aseg kS krf kB [kE282, kE283] (ksp []) kE284 [kC284_0] 30000 (some kC284_0) = true := by decide +kernel
theorem kok284 : aOK kS krf kB kE284 := aOK_of (kal1 kok282 (kal1 kok283 kal0)) (kcl1 ks284_0 kcl0) ks284
/-- ColdShod$WayPlan.follow(LColdShod$Country;IIII)V -/
def kE285 : aE := (90, 5, ([kvB 0 2147483647, kvB 0 7, kvA], [], 0, [kvR 59, kvR 7, kvI 0, kvI 1, kvI 2, kvN 5, none, none, none], []), ([], none), ([], [], none, ([], [])), kvW52)
def kC285_0 : aC := (([kvB 0 2147483647, kvB 0 7, kvA, kvB 0 12], [], 32, [kvR 59, kvR 7, kvI 0, kvI 1, kvI 2, kvN 5, kvI 3, none, none], []), ([], []), (12, [(-1, 3)]))
theorem ks285 : aseg kS krf kB [kE280, kE284] (ksp []) kE285 [kC285_0] 30000 (none) = true := by decide +kernel
theorem ks285_0 : aseg kS krf kB [kE280, kE284] (ksp []) kE285 [kC285_0] 30000 (some kC285_0) = true := by decide +kernel
theorem kok285 : aOK kS krf kB kE285 := aOK_of (kal1 kok280 (kal1 kok284 kal0)) (kcl1 ks285_0 kcl0) ks285
/-- ColdShod$WayPlan.follow(LColdShod$Country;IIII)V -/
def kE286 : aE := (90, 6, ([kvB 0 2147483647, kvB 0 7, kvA], [], 0, [kvR 59, kvR 7, kvI 0, kvI 1, kvI 2, kvN 4, none, none, none], []), ([], none), ([], [], none, ([], [])), kvW53)
def kC286_0 : aC := (([kvB 0 2147483647, kvB 0 7, kvA, kvB 0 12], [], 32, [kvR 59, kvR 7, kvI 0, kvI 1, kvI 2, kvN 4, kvI 3, none, none], []), ([], []), (12, [(-1, 3)]))
theorem ks286 : aseg kS krf kB [kE278, kE285] (ksp []) kE286 [kC286_0] 30000 (none) = true := by decide +kernel
theorem ks286_0 : aseg kS krf kB [kE278, kE285] (ksp []) kE286 [kC286_0] 30000 (some kC286_0) = true := by decide +kernel
theorem kok286 : aOK kS krf kB kE286 := aOK_of (kal1 kok278 (kal1 kok285 kal0)) (kcl1 ks286_0 kcl0) ks286
/-- ColdShod$WayPlan.follow(LColdShod$Country;IIII)V -/
def kE287 : aE := (90, 7, ([kvB 0 2147483647, kvB 0 7, kvA], [], 0, [kvR 59, kvR 7, kvI 0, kvI 1, kvI 2, kvN 3, none, none, none], []), ([], none), ([], [], none, ([], [])), kvW54)
def kC287_0 : aC := (([kvB 0 2147483647, kvB 0 7, kvA, kvB 0 12], [], 32, [kvR 59, kvR 7, kvI 0, kvI 1, kvI 2, kvN 3, kvI 3, none, none], []), ([], []), (12, [(-1, 3)]))
theorem ks287 : aseg kS krf kB [kE276, kE286] (ksp []) kE287 [kC287_0] 30000 (none) = true := by decide +kernel
theorem ks287_0 : aseg kS krf kB [kE276, kE286] (ksp []) kE287 [kC287_0] 30000 (some kC287_0) = true := by decide +kernel
theorem kok287 : aOK kS krf kB kE287 := aOK_of (kal1 kok276 (kal1 kok286 kal0)) (kcl1 ks287_0 kcl0) ks287
/-- ColdShod$WayPlan.follow(LColdShod$Country;IIII)V -/
def kE288 : aE := (90, 8, ([kvB 0 2147483647, kvB 0 7, kvA], [], 0, [kvR 59, kvR 7, kvI 0, kvI 1, kvI 2, kvN 2, none, none, none], []), ([], none), ([], [], none, ([], [])), kvW55)
def kC288_0 : aC := (([kvB 0 2147483647, kvB 0 7, kvA, kvB 0 12], [], 32, [kvR 59, kvR 7, kvI 0, kvI 1, kvI 2, kvN 2, kvI 3, none, none], []), ([], []), (12, [(-1, 3)]))
theorem ks288 : aseg kS krf kB [kE274, kE287] (ksp []) kE288 [kC288_0] 30000 (none) = true := by decide +kernel
theorem ks288_0 : aseg kS krf kB [kE274, kE287] (ksp []) kE288 [kC288_0] 30000 (some kC288_0) = true := by decide +kernel
theorem kok288 : aOK kS krf kB kE288 := aOK_of (kal1 kok274 (kal1 kok287 kal0)) (kcl1 ks288_0 kcl0) ks288
/-- ColdShod$WayPlan.follow(LColdShod$Country;IIII)V -/
def kE289 : aE := (90, 9, ([kvB 0 2147483647, kvB 0 7, kvA], [], 0, [kvR 59, kvR 7, kvI 0, kvI 1, kvI 2, kvN 1, none, none, none], []), ([], none), ([], [], none, ([], [])), kvW56)
def kC289_0 : aC := (([kvB 0 2147483647, kvB 0 7, kvA, kvB 0 12], [], 32, [kvR 59, kvR 7, kvI 0, kvI 1, kvI 2, kvN 1, kvI 3, none, none], []), ([], []), (12, [(-1, 3)]))
theorem ks289 : aseg kS krf kB [kE272, kE288] (ksp []) kE289 [kC289_0] 30000 (none) = true := by decide +kernel
theorem ks289_0 : aseg kS krf kB [kE272, kE288] (ksp []) kE289 [kC289_0] 30000 (some kC289_0) = true := by decide +kernel
theorem kok289 : aOK kS krf kB kE289 := aOK_of (kal1 kok272 (kal1 kok288 kal0)) (kcl1 ks289_0 kcl0) ks289
/-- ColdShod$WayPlan.follow(LColdShod$Country;IIII)V -/
def kE290 : aE := (90, 10, ([kvB 0 7, kvB 0 7, kvA], [], 0, [kvR 59, kvR 7, kvI 0, kvI 1, kvI 2, kvN 0, none, none, none], []), ([], none), ([], [], none, ([], [])), kvW57)
def kC290_0 : aC := (([kvB 0 7, kvB 0 7, kvA, kvB 0 12], [], 32, [kvR 59, kvR 7, kvI 0, kvI 1, kvI 2, kvN 0, kvI 3, none, none], []), ([], []), (12, [(-1, 3)]))
theorem ks290 : aseg kS krf kB [kE270, kE289] (ksp []) kE290 [kC290_0] 30000 (none) = true := by decide +kernel
theorem ks290_0 : aseg kS krf kB [kE270, kE289] (ksp []) kE290 [kC290_0] 30000 (some kC290_0) = true := by decide +kernel
theorem kok290 : aOK kS krf kB kE290 := aOK_of (kal1 kok270 (kal1 kok289 kal0)) (kcl1 ks290_0 kcl0) ks290
