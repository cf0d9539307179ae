/-! ENTRIES and their checks: printed by a program (wip/ai). -/
/-- ColdShodModel.rowsAre(I)I -/
def kE157 : aE := (203, 2, ([], [], 0, [some (.inr [102]), some (.inl (.inl (.inr (.ofNat 59))))], []), ([], none), ([(.negSucc 0, .negSucc 0)], [], some (.inl (.inl (.inl (0, .ofNat 0)))), ([], [])), ([], []))
theorem ks157 : aseg kS krf kB [] (ksp []) kE157 [] 30000 (none) = true := by decide +kernel
theorem kok157 : aOK kS krf kB kE157 := aOK_of kal0 kcl0 ks157
/-- ColdShodModel.rowsAre(I)I -/
def kE158 : aE := (203, 2, ([], [], 0, [some (.inr [102]), some (.inl (.inl (.inr (.ofNat 58))))], []), ([], none), ([(.negSucc 0, .negSucc 0)], [], some (.inl (.inl (.inl (0, .ofNat 0)))), ([], [])), ([], []))
theorem ks158 : aseg kS krf kB [] (ksp []) kE158 [] 30000 (none) = true := by decide +kernel
theorem kok158 : aOK kS krf kB kE158 := aOK_of kal0 kcl0 ks158
/-- ColdShodModel.rowsAre(I)I -/
def kE159 : aE := (203, 2, ([], [], 0, [some (.inr [102]), some (.inl (.inl (.inr (.ofNat 57))))], []), ([], none), ([(.negSucc 0, .negSucc 0)], [], some (.inl (.inl (.inl (0, .ofNat 0)))), ([], [])), ([], []))
theorem ks159 : aseg kS krf kB [] (ksp []) kE159 [] 30000 (none) = true := by decide +kernel
theorem kok159 : aOK kS krf kB kE159 := aOK_of kal0 kcl0 ks159
/-- ColdShodModel.rowsAre(I)I -/
def kE160 : aE := (203, 2, ([], [], 0, [some (.inr [102]), some (.inl (.inl (.inr (.ofNat 56))))], []), ([], none), ([(.negSucc 0, .negSucc 0)], [], some (.inl (.inl (.inl (0, .ofNat 0)))), ([], [])), ([], []))
theorem ks160 : aseg kS krf kB [] (ksp []) kE160 [] 30000 (none) = true := by decide +kernel
theorem kok160 : aOK kS krf kB kE160 := aOK_of kal0 kcl0 ks160
/-- ColdShodModel.rowsAre(I)I -/
def kE161 : aE := (203, 3, ([], [], 0, [some (.inr [102]), some (.inl (.inl (.inr (.ofNat 55))))], []), ([], none), ([(.negSucc 11, .ofNat 1)], [], some (.inl (.inl (.inl (0, .ofNat 0)))), ([], [])), ([], []))
theorem ks161 : aseg kS krf kB [] (ksp []) kE161 [] 30000 (none) = true := by decide +kernel
theorem kok161 : aOK kS krf kB kE161 := aOK_of kal0 kcl0 ks161
/-- ColdShodModel.rowsAre(I)I -/
def kE162 : aE := (203, 3, ([], [], 0, [some (.inr [102]), some (.inl (.inl (.inr (.ofNat 54))))], []), ([], none), ([(.negSucc 11, .ofNat 1)], [], some (.inl (.inl (.inl (0, .ofNat 0)))), ([], [])), ([], []))
theorem ks162 : aseg kS krf kB [] (ksp []) kE162 [] 30000 (none) = true := by decide +kernel
theorem kok162 : aOK kS krf kB kE162 := aOK_of kal0 kcl0 ks162
/-- ColdShodModel.rowsAre(I)I -/
def kE163 : aE := (203, 3, ([], [], 0, [some (.inr [102]), some (.inl (.inl (.inr (.ofNat 53))))], []), ([], none), ([(.negSucc 11, .ofNat 1)], [], some (.inl (.inl (.inl (0, .ofNat 0)))), ([], [])), ([], []))
theorem ks163 : aseg kS krf kB [] (ksp []) kE163 [] 30000 (none) = true := by decide +kernel
theorem kok163 : aOK kS krf kB kE163 := aOK_of kal0 kcl0 ks163
/-- ColdShodModel.rowsAre(I)I -/
def kE164 : aE := (203, 3, ([], [], 0, [some (.inr [102]), some (.inl (.inl (.inr (.ofNat 52))))], []), ([], none), ([(.negSucc 11, .ofNat 1)], [], some (.inl (.inl (.inl (0, .ofNat 0)))), ([], [])), ([], []))
theorem ks164 : aseg kS krf kB [] (ksp []) kE164 [] 30000 (none) = true := by decide +kernel
theorem kok164 : aOK kS krf kB kE164 := aOK_of kal0 kcl0 ks164
/-- ColdShodModel.rowsAre(I)I -/
def kE165 : aE := (203, 3, ([], [], 0, [some (.inr [102]), some (.inl (.inl (.inr (.ofNat 51))))], []), ([], none), ([(.negSucc 11, .ofNat 1)], [], some (.inl (.inl (.inl (0, .ofNat 0)))), ([], [])), ([], []))
theorem ks165 : aseg kS krf kB [] (ksp []) kE165 [] 30000 (none) = true := by decide +kernel
theorem kok165 : aOK kS krf kB kE165 := aOK_of kal0 kcl0 ks165
/-- ColdShodModel.rowsAre(I)I -/
def kE166 : aE := (203, 3, ([], [], 0, [some (.inr [102]), some (.inl (.inl (.inr (.ofNat 50))))], []), ([], none), ([(.negSucc 11, .ofNat 1)], [], some (.inl (.inl (.inl (0, .ofNat 0)))), ([], [])), ([], []))
theorem ks166 : aseg kS krf kB [] (ksp []) kE166 [] 30000 (none) = true := by decide +kernel
theorem kok166 : aOK kS krf kB kE166 := aOK_of kal0 kcl0 ks166
/-- ColdShodModel.rowsAre(I)I -/
def kE167 : aE := (203, 2, ([], [], 0, [some (.inr [102]), some (.inl (.inl (.inr (.ofNat 49))))], []), ([], none), ([(.negSucc 0, .negSucc 0)], [], some (.inl (.inl (.inl (0, .ofNat 0)))), ([], [])), ([], []))
theorem ks167 : aseg kS krf kB [] (ksp []) kE167 [] 30000 (none) = true := by decide +kernel
theorem kok167 : aOK kS krf kB kE167 := aOK_of kal0 kcl0 ks167
/-- ColdShodModel.rowsAre(I)I -/
def kE168 : aE := (203, 2, ([], [], 0, [some (.inr [102]), some (.inl (.inl (.inr (.ofNat 48))))], []), ([], none), ([(.negSucc 0, .negSucc 0)], [], some (.inl (.inl (.inl (0, .ofNat 0)))), ([], [])), ([], []))
theorem ks168 : aseg kS krf kB [] (ksp []) kE168 [] 30000 (none) = true := by decide +kernel
theorem kok168 : aOK kS krf kB kE168 := aOK_of kal0 kcl0 ks168
/-- ColdShodModel.rowsAre(I)I -/
def kE169 : aE := (203, 2, ([], [], 0, [some (.inr [102]), some (.inl (.inl (.inr (.ofNat 47))))], []), ([], none), ([(.negSucc 0, .negSucc 0)], [], some (.inl (.inl (.inl (0, .ofNat 0)))), ([], [])), ([], []))
theorem ks169 : aseg kS krf kB [] (ksp []) kE169 [] 30000 (none) = true := by decide +kernel
theorem kok169 : aOK kS krf kB kE169 := aOK_of kal0 kcl0 ks169
/-- ColdShodModel.rowsAre(I)I -/
def kE170 : aE := (203, 2, ([], [], 0, [some (.inr [102]), some (.inl (.inl (.inr (.ofNat 46))))], []), ([], none), ([(.negSucc 0, .negSucc 0)], [], some (.inl (.inl (.inl (0, .ofNat 0)))), ([], [])), ([], []))
theorem ks170 : aseg kS krf kB [] (ksp []) kE170 [] 30000 (none) = true := by decide +kernel
theorem kok170 : aOK kS krf kB kE170 := aOK_of kal0 kcl0 ks170
/-- ColdShodModel.rowsAre(I)I -/
def kE171 : aE := (203, 3, ([], [], 0, [some (.inr [102]), some (.inl (.inl (.inr (.ofNat 45))))], []), ([], none), ([(.negSucc 11, .ofNat 1)], [], some (.inl (.inl (.inl (0, .ofNat 0)))), ([], [])), ([], []))
theorem ks171 : aseg kS krf kB [] (ksp []) kE171 [] 30000 (none) = true := by decide +kernel
theorem kok171 : aOK kS krf kB kE171 := aOK_of kal0 kcl0 ks171
/-- ColdShodModel.rowsAre(I)I -/
def kE172 : aE := (203, 3, ([], [], 0, [some (.inr [102]), some (.inl (.inl (.inr (.ofNat 44))))], []), ([], none), ([(.negSucc 11, .ofNat 1)], [], some (.inl (.inl (.inl (0, .ofNat 0)))), ([], [])), ([], []))
theorem ks172 : aseg kS krf kB [] (ksp []) kE172 [] 30000 (none) = true := by decide +kernel
theorem kok172 : aOK kS krf kB kE172 := aOK_of kal0 kcl0 ks172
/-- ColdShodModel.rowsAre(I)I -/
def kE173 : aE := (203, 3, ([], [], 0, [some (.inr [102]), some (.inl (.inl (.inr (.ofNat 43))))], []), ([], none), ([(.negSucc 11, .ofNat 1)], [], some (.inl (.inl (.inl (0, .ofNat 0)))), ([], [])), ([], []))
theorem ks173 : aseg kS krf kB [] (ksp []) kE173 [] 30000 (none) = true := by decide +kernel
theorem kok173 : aOK kS krf kB kE173 := aOK_of kal0 kcl0 ks173
/-- ColdShodModel.rowsAre(I)I -/
def kE174 : aE := (203, 3, ([], [], 0, [some (.inr [102]), some (.inl (.inl (.inr (.ofNat 42))))], []), ([], none), ([(.negSucc 11, .ofNat 1)], [], some (.inl (.inl (.inl (0, .ofNat 0)))), ([], [])), ([], []))
theorem ks174 : aseg kS krf kB [] (ksp []) kE174 [] 30000 (none) = true := by decide +kernel
theorem kok174 : aOK kS krf kB kE174 := aOK_of kal0 kcl0 ks174
/-- ColdShodModel.rowsAre(I)I -/
def kE175 : aE := (203, 3, ([], [], 0, [some (.inr [102]), some (.inl (.inl (.inr (.ofNat 41))))], []), ([], none), ([(.negSucc 11, .ofNat 1)], [], some (.inl (.inl (.inl (0, .ofNat 0)))), ([], [])), ([], []))
theorem ks175 : aseg kS krf kB [] (ksp []) kE175 [] 30000 (none) = true := by decide +kernel
theorem kok175 : aOK kS krf kB kE175 := aOK_of kal0 kcl0 ks175
/-- ColdShodModel.rowsAre(I)I -/
def kE176 : aE := (203, 3, ([], [], 0, [some (.inr [102]), some (.inl (.inl (.inr (.ofNat 40))))], []), ([], none), ([(.negSucc 11, .ofNat 1)], [], some (.inl (.inl (.inl (0, .ofNat 0)))), ([], [])), ([], []))
theorem ks176 : aseg kS krf kB [] (ksp []) kE176 [] 30000 (none) = true := by decide +kernel
theorem kok176 : aOK kS krf kB kE176 := aOK_of kal0 kcl0 ks176
/-- ColdShodModel.rowsAre(I)I -/
def kE177 : aE := (203, 2, ([], [], 0, [some (.inr [102]), some (.inl (.inl (.inr (.ofNat 39))))], []), ([], none), ([(.negSucc 0, .negSucc 0)], [], some (.inl (.inl (.inl (0, .ofNat 0)))), ([], [])), ([], []))
theorem ks177 : aseg kS krf kB [] (ksp []) kE177 [] 30000 (none) = true := by decide +kernel
theorem kok177 : aOK kS krf kB kE177 := aOK_of kal0 kcl0 ks177
/-- ColdShodModel.rowsAre(I)I -/
def kE178 : aE := (203, 2, ([], [], 0, [some (.inr [102]), some (.inl (.inl (.inr (.ofNat 38))))], []), ([], none), ([(.negSucc 0, .negSucc 0)], [], some (.inl (.inl (.inl (0, .ofNat 0)))), ([], [])), ([], []))
theorem ks178 : aseg kS krf kB [] (ksp []) kE178 [] 30000 (none) = true := by decide +kernel
theorem kok178 : aOK kS krf kB kE178 := aOK_of kal0 kcl0 ks178
/-- ColdShodModel.rowsAre(I)I -/
def kE179 : aE := (203, 2, ([], [], 0, [some (.inr [102]), some (.inl (.inl (.inr (.ofNat 37))))], []), ([], none), ([(.negSucc 0, .negSucc 0)], [], some (.inl (.inl (.inl (0, .ofNat 0)))), ([], [])), ([], []))
theorem ks179 : aseg kS krf kB [] (ksp []) kE179 [] 30000 (none) = true := by decide +kernel
theorem kok179 : aOK kS krf kB kE179 := aOK_of kal0 kcl0 ks179
/-- ColdShodModel.rowsAre(I)I -/
def kE180 : aE := (203, 2, ([], [], 0, [some (.inr [102]), some (.inl (.inl (.inr (.ofNat 36))))], []), ([], none), ([(.negSucc 0, .negSucc 0)], [], some (.inl (.inl (.inl (0, .ofNat 0)))), ([], [])), ([], []))
theorem ks180 : aseg kS krf kB [] (ksp []) kE180 [] 30000 (none) = true := by decide +kernel
theorem kok180 : aOK kS krf kB kE180 := aOK_of kal0 kcl0 ks180
/-- ColdShodModel.rowsAre(I)I -/
def kE181 : aE := (203, 3, ([], [], 0, [some (.inr [102]), some (.inl (.inl (.inr (.ofNat 35))))], []), ([], none), ([(.negSucc 11, .ofNat 1)], [], some (.inl (.inl (.inl (0, .ofNat 0)))), ([], [])), ([], []))
theorem ks181 : aseg kS krf kB [] (ksp []) kE181 [] 30000 (none) = true := by decide +kernel
theorem kok181 : aOK kS krf kB kE181 := aOK_of kal0 kcl0 ks181
/-- ColdShodModel.rowsAre(I)I -/
def kE182 : aE := (203, 3, ([], [], 0, [some (.inr [102]), some (.inl (.inl (.inr (.ofNat 34))))], []), ([], none), ([(.negSucc 11, .ofNat 1)], [], some (.inl (.inl (.inl (0, .ofNat 0)))), ([], [])), ([], []))
theorem ks182 : aseg kS krf kB [] (ksp []) kE182 [] 30000 (none) = true := by decide +kernel
theorem kok182 : aOK kS krf kB kE182 := aOK_of kal0 kcl0 ks182
/-- ColdShodModel.rowsAre(I)I -/
def kE183 : aE := (203, 3, ([], [], 0, [some (.inr [102]), some (.inl (.inl (.inr (.ofNat 33))))], []), ([], none), ([(.negSucc 11, .ofNat 1)], [], some (.inl (.inl (.inl (0, .ofNat 0)))), ([], [])), ([], []))
theorem ks183 : aseg kS krf kB [] (ksp []) kE183 [] 30000 (none) = true := by decide +kernel
theorem kok183 : aOK kS krf kB kE183 := aOK_of kal0 kcl0 ks183
/-- ColdShodModel.rowsAre(I)I -/
def kE184 : aE := (203, 3, ([], [], 0, [some (.inr [102]), some (.inl (.inl (.inr (.ofNat 32))))], []), ([], none), ([(.negSucc 11, .ofNat 1)], [], some (.inl (.inl (.inl (0, .ofNat 0)))), ([], [])), ([], []))
theorem ks184 : aseg kS krf kB [] (ksp []) kE184 [] 30000 (none) = true := by decide +kernel
theorem kok184 : aOK kS krf kB kE184 := aOK_of kal0 kcl0 ks184
/-- ColdShodModel.rowsAre(I)I -/
def kE185 : aE := (203, 3, ([], [], 0, [some (.inr [102]), some (.inl (.inl (.inr (.ofNat 31))))], []), ([], none), ([(.negSucc 11, .ofNat 1)], [], some (.inl (.inl (.inl (0, .ofNat 0)))), ([], [])), ([], []))
theorem ks185 : aseg kS krf kB [] (ksp []) kE185 [] 30000 (none) = true := by decide +kernel
theorem kok185 : aOK kS krf kB kE185 := aOK_of kal0 kcl0 ks185
/-- ColdShodModel.rowsAre(I)I -/
def kE186 : aE := (203, 3, ([], [], 0, [some (.inr [102]), some (.inl (.inl (.inr (.ofNat 30))))], []), ([], none), ([(.negSucc 11, .ofNat 1)], [], some (.inl (.inl (.inl (0, .ofNat 0)))), ([], [])), ([], []))
theorem ks186 : aseg kS krf kB [] (ksp []) kE186 [] 30000 (none) = true := by decide +kernel
theorem kok186 : aOK kS krf kB kE186 := aOK_of kal0 kcl0 ks186
/-- ColdShodModel.rowsAre(I)I -/
def kE187 : aE := (203, 2, ([], [], 0, [some (.inr [102]), some (.inl (.inl (.inr (.ofNat 29))))], []), ([], none), ([(.negSucc 0, .negSucc 0)], [], some (.inl (.inl (.inl (0, .ofNat 0)))), ([], [])), ([], []))
theorem ks187 : aseg kS krf kB [] (ksp []) kE187 [] 30000 (none) = true := by decide +kernel
theorem kok187 : aOK kS krf kB kE187 := aOK_of kal0 kcl0 ks187
/-- ColdShodModel.rowsAre(I)I -/
def kE188 : aE := (203, 2, ([], [], 0, [some (.inr [102]), some (.inl (.inl (.inr (.ofNat 28))))], []), ([], none), ([(.negSucc 0, .negSucc 0)], [], some (.inl (.inl (.inl (0, .ofNat 0)))), ([], [])), ([], []))
theorem ks188 : aseg kS krf kB [] (ksp []) kE188 [] 30000 (none) = true := by decide +kernel
theorem kok188 : aOK kS krf kB kE188 := aOK_of kal0 kcl0 ks188
/-- ColdShodModel.rowsAre(I)I -/
def kE189 : aE := (203, 2, ([], [], 0, [some (.inr [102]), some (.inl (.inl (.inr (.ofNat 27))))], []), ([], none), ([(.negSucc 0, .negSucc 0)], [], some (.inl (.inl (.inl (0, .ofNat 0)))), ([], [])), ([], []))
theorem ks189 : aseg kS krf kB [] (ksp []) kE189 [] 30000 (none) = true := by decide +kernel
theorem kok189 : aOK kS krf kB kE189 := aOK_of kal0 kcl0 ks189
/-- ColdShodModel.rowsAre(I)I -/
def kE190 : aE := (203, 2, ([], [], 0, [some (.inr [102]), some (.inl (.inl (.inr (.ofNat 26))))], []), ([], none), ([(.negSucc 0, .negSucc 0)], [], some (.inl (.inl (.inl (0, .ofNat 0)))), ([], [])), ([], []))
theorem ks190 : aseg kS krf kB [] (ksp []) kE190 [] 30000 (none) = true := by decide +kernel
theorem kok190 : aOK kS krf kB kE190 := aOK_of kal0 kcl0 ks190
/-- ColdShodModel.rowsAre(I)I -/
def kE191 : aE := (203, 3, ([], [], 0, [some (.inr [102]), some (.inl (.inl (.inr (.ofNat 25))))], []), ([], none), ([(.negSucc 11, .ofNat 1)], [], some (.inl (.inl (.inl (0, .ofNat 0)))), ([], [])), ([], []))
theorem ks191 : aseg kS krf kB [] (ksp []) kE191 [] 30000 (none) = true := by decide +kernel
theorem kok191 : aOK kS krf kB kE191 := aOK_of kal0 kcl0 ks191
/-- ColdShodModel.rowsAre(I)I -/
def kE192 : aE := (203, 3, ([], [], 0, [some (.inr [102]), some (.inl (.inl (.inr (.ofNat 24))))], []), ([], none), ([(.negSucc 11, .ofNat 1)], [], some (.inl (.inl (.inl (0, .ofNat 0)))), ([], [])), ([], []))
theorem ks192 : aseg kS krf kB [] (ksp []) kE192 [] 30000 (none) = true := by decide +kernel
theorem kok192 : aOK kS krf kB kE192 := aOK_of kal0 kcl0 ks192
/-- ColdShodModel.rowsAre(I)I -/
def kE193 : aE := (203, 3, ([], [], 0, [some (.inr [102]), some (.inl (.inl (.inr (.ofNat 23))))], []), ([], none), ([(.negSucc 11, .ofNat 1)], [], some (.inl (.inl (.inl (0, .ofNat 0)))), ([], [])), ([], []))
theorem ks193 : aseg kS krf kB [] (ksp []) kE193 [] 30000 (none) = true := by decide +kernel
theorem kok193 : aOK kS krf kB kE193 := aOK_of kal0 kcl0 ks193
/-- ColdShodModel.rowsAre(I)I -/
def kE194 : aE := (203, 3, ([], [], 0, [some (.inr [102]), some (.inl (.inl (.inr (.ofNat 22))))], []), ([], none), ([(.negSucc 11, .ofNat 1)], [], some (.inl (.inl (.inl (0, .ofNat 0)))), ([], [])), ([], []))
theorem ks194 : aseg kS krf kB [] (ksp []) kE194 [] 30000 (none) = true := by decide +kernel
theorem kok194 : aOK kS krf kB kE194 := aOK_of kal0 kcl0 ks194
/-- ColdShodModel.rowsAre(I)I -/
def kE195 : aE := (203, 3, ([], [], 0, [some (.inr [102]), some (.inl (.inl (.inr (.ofNat 21))))], []), ([], none), ([(.negSucc 11, .ofNat 1)], [], some (.inl (.inl (.inl (0, .ofNat 0)))), ([], [])), ([], []))
theorem ks195 : aseg kS krf kB [] (ksp []) kE195 [] 30000 (none) = true := by decide +kernel
theorem kok195 : aOK kS krf kB kE195 := aOK_of kal0 kcl0 ks195
/-- ColdShodModel.rowsAre(I)I -/
def kE196 : aE := (203, 3, ([], [], 0, [some (.inr [102]), some (.inl (.inl (.inr (.ofNat 20))))], []), ([], none), ([(.negSucc 11, .ofNat 1)], [], some (.inl (.inl (.inl (0, .ofNat 0)))), ([], [])), ([], []))
theorem ks196 : aseg kS krf kB [] (ksp []) kE196 [] 30000 (none) = true := by decide +kernel
theorem kok196 : aOK kS krf kB kE196 := aOK_of kal0 kcl0 ks196
/-- ColdShodModel.rowsAre(I)I -/
def kE197 : aE := (203, 2, ([], [], 0, [some (.inr [102]), some (.inl (.inl (.inr (.ofNat 19))))], []), ([], none), ([(.negSucc 0, .negSucc 0)], [], some (.inl (.inl (.inl (0, .ofNat 0)))), ([], [])), ([], []))
theorem ks197 : aseg kS krf kB [] (ksp []) kE197 [] 30000 (none) = true := by decide +kernel
theorem kok197 : aOK kS krf kB kE197 := aOK_of kal0 kcl0 ks197
/-- ColdShodModel.rowsAre(I)I -/
def kE198 : aE := (203, 2, ([], [], 0, [some (.inr [102]), some (.inl (.inl (.inr (.ofNat 18))))], []), ([], none), ([(.negSucc 0, .negSucc 0)], [], some (.inl (.inl (.inl (0, .ofNat 0)))), ([], [])), ([], []))
theorem ks198 : aseg kS krf kB [] (ksp []) kE198 [] 30000 (none) = true := by decide +kernel
theorem kok198 : aOK kS krf kB kE198 := aOK_of kal0 kcl0 ks198
/-- ColdShodModel.rowsAre(I)I -/
def kE199 : aE := (203, 2, ([], [], 0, [some (.inr [102]), some (.inl (.inl (.inr (.ofNat 17))))], []), ([], none), ([(.negSucc 0, .negSucc 0)], [], some (.inl (.inl (.inl (0, .ofNat 0)))), ([], [])), ([], []))
theorem ks199 : aseg kS krf kB [] (ksp []) kE199 [] 30000 (none) = true := by decide +kernel
theorem kok199 : aOK kS krf kB kE199 := aOK_of kal0 kcl0 ks199
/-- ColdShodModel.rowsAre(I)I -/
def kE200 : aE := (203, 2, ([], [], 0, [some (.inr [102]), some (.inl (.inl (.inr (.ofNat 16))))], []), ([], none), ([(.negSucc 0, .negSucc 0)], [], some (.inl (.inl (.inl (0, .ofNat 0)))), ([], [])), ([], []))
theorem ks200 : aseg kS krf kB [] (ksp []) kE200 [] 30000 (none) = true := by decide +kernel
theorem kok200 : aOK kS krf kB kE200 := aOK_of kal0 kcl0 ks200
/-- ColdShodModel.rowsAre(I)I -/
def kE201 : aE := (203, 3, ([], [], 0, [some (.inr [102]), some (.inl (.inl (.inr (.ofNat 15))))], []), ([], none), ([(.negSucc 11, .ofNat 1)], [], some (.inl (.inl (.inl (0, .ofNat 0)))), ([], [])), ([], []))
theorem ks201 : aseg kS krf kB [] (ksp []) kE201 [] 30000 (none) = true := by decide +kernel
theorem kok201 : aOK kS krf kB kE201 := aOK_of kal0 kcl0 ks201
/-- ColdShodModel.rowsAre(I)I -/
def kE202 : aE := (203, 3, ([], [], 0, [some (.inr [102]), some (.inl (.inl (.inr (.ofNat 14))))], []), ([], none), ([(.negSucc 11, .ofNat 1)], [], some (.inl (.inl (.inl (0, .ofNat 0)))), ([], [])), ([], []))
theorem ks202 : aseg kS krf kB [] (ksp []) kE202 [] 30000 (none) = true := by decide +kernel
theorem kok202 : aOK kS krf kB kE202 := aOK_of kal0 kcl0 ks202
/-- ColdShodModel.rowsAre(I)I -/
def kE203 : aE := (203, 3, ([], [], 0, [some (.inr [102]), some (.inl (.inl (.inr (.ofNat 13))))], []), ([], none), ([(.negSucc 11, .ofNat 1)], [], some (.inl (.inl (.inl (0, .ofNat 0)))), ([], [])), ([], []))
theorem ks203 : aseg kS krf kB [] (ksp []) kE203 [] 30000 (none) = true := by decide +kernel
theorem kok203 : aOK kS krf kB kE203 := aOK_of kal0 kcl0 ks203
/-- ColdShodModel.rowsAre(I)I -/
def kE204 : aE := (203, 3, ([], [], 0, [some (.inr [102]), some (.inl (.inl (.inr (.ofNat 12))))], []), ([], none), ([(.negSucc 11, .ofNat 1)], [], some (.inl (.inl (.inl (0, .ofNat 0)))), ([], [])), ([], []))
theorem ks204 : aseg kS krf kB [] (ksp []) kE204 [] 30000 (none) = true := by decide +kernel
theorem kok204 : aOK kS krf kB kE204 := aOK_of kal0 kcl0 ks204
/-- ColdShodModel.rowsAre(I)I -/
def kE205 : aE := (203, 3, ([], [], 0, [some (.inr [102]), some (.inl (.inl (.inr (.ofNat 11))))], []), ([], none), ([(.negSucc 11, .ofNat 1)], [], some (.inl (.inl (.inl (0, .ofNat 0)))), ([], [])), ([], []))
theorem ks205 : aseg kS krf kB [] (ksp []) kE205 [] 30000 (none) = true := by decide +kernel
theorem kok205 : aOK kS krf kB kE205 := aOK_of kal0 kcl0 ks205
/-- ColdShodModel.rowsAre(I)I -/
def kE206 : aE := (203, 3, ([], [], 0, [some (.inr [102]), some (.inl (.inl (.inr (.ofNat 10))))], []), ([], none), ([(.negSucc 11, .ofNat 1)], [], some (.inl (.inl (.inl (0, .ofNat 0)))), ([], [])), ([], []))
theorem ks206 : aseg kS krf kB [] (ksp []) kE206 [] 30000 (none) = true := by decide +kernel
theorem kok206 : aOK kS krf kB kE206 := aOK_of kal0 kcl0 ks206
/-- ColdShodModel.rowsAre(I)I -/
def kE207 : aE := (203, 2, ([], [], 0, [some (.inr [102]), some (.inl (.inl (.inr (.ofNat 9))))], []), ([], none), ([(.negSucc 0, .negSucc 0)], [], some (.inl (.inl (.inl (0, .ofNat 0)))), ([], [])), ([], []))
theorem ks207 : aseg kS krf kB [] (ksp []) kE207 [] 30000 (none) = true := by decide +kernel
theorem kok207 : aOK kS krf kB kE207 := aOK_of kal0 kcl0 ks207
/-- ColdShodModel.rowsAre(I)I -/
def kE208 : aE := (203, 2, ([], [], 0, [some (.inr [102]), some (.inl (.inl (.inr (.ofNat 8))))], []), ([], none), ([(.negSucc 0, .negSucc 0)], [], some (.inl (.inl (.inl (0, .ofNat 0)))), ([], [])), ([], []))
theorem ks208 : aseg kS krf kB [] (ksp []) kE208 [] 30000 (none) = true := by decide +kernel
theorem kok208 : aOK kS krf kB kE208 := aOK_of kal0 kcl0 ks208
/-- ColdShodModel.rowsAre(I)I -/
def kE209 : aE := (203, 2, ([], [], 0, [some (.inr [102]), some (.inl (.inl (.inr (.ofNat 7))))], []), ([], none), ([(.negSucc 0, .negSucc 0)], [], some (.inl (.inl (.inl (0, .ofNat 0)))), ([], [])), ([], []))
theorem ks209 : aseg kS krf kB [] (ksp []) kE209 [] 30000 (none) = true := by decide +kernel
theorem kok209 : aOK kS krf kB kE209 := aOK_of kal0 kcl0 ks209
/-- ColdShodModel.rowsAre(I)I -/
def kE210 : aE := (203, 2, ([], [], 0, [some (.inr [102]), some (.inl (.inl (.inr (.ofNat 6))))], []), ([], none), ([(.negSucc 0, .negSucc 0)], [], some (.inl (.inl (.inl (0, .ofNat 0)))), ([], [])), ([], []))
theorem ks210 : aseg kS krf kB [] (ksp []) kE210 [] 30000 (none) = true := by decide +kernel
theorem kok210 : aOK kS krf kB kE210 := aOK_of kal0 kcl0 ks210
/-- ColdShodModel.rowsAre(I)I -/
def kE211 : aE := (203, 3, ([], [], 0, [some (.inr [102]), some (.inl (.inl (.inr (.ofNat 5))))], []), ([], none), ([(.negSucc 11, .ofNat 1)], [], some (.inl (.inl (.inl (0, .ofNat 0)))), ([], [])), ([], []))
theorem ks211 : aseg kS krf kB [] (ksp []) kE211 [] 30000 (none) = true := by decide +kernel
theorem kok211 : aOK kS krf kB kE211 := aOK_of kal0 kcl0 ks211
/-- ColdShodModel.rowsAre(I)I -/
def kE212 : aE := (203, 3, ([], [], 0, [some (.inr [102]), some (.inl (.inl (.inr (.ofNat 4))))], []), ([], none), ([(.negSucc 11, .ofNat 1)], [], some (.inl (.inl (.inl (0, .ofNat 0)))), ([], [])), ([], []))
theorem ks212 : aseg kS krf kB [] (ksp []) kE212 [] 30000 (none) = true := by decide +kernel
theorem kok212 : aOK kS krf kB kE212 := aOK_of kal0 kcl0 ks212
/-- ColdShodModel.rowsAre(I)I -/
def kE213 : aE := (203, 3, ([], [], 0, [some (.inr [102]), some (.inl (.inl (.inr (.ofNat 3))))], []), ([], none), ([(.negSucc 11, .ofNat 1)], [], some (.inl (.inl (.inl (0, .ofNat 0)))), ([], [])), ([], []))
theorem ks213 : aseg kS krf kB [] (ksp []) kE213 [] 30000 (none) = true := by decide +kernel
theorem kok213 : aOK kS krf kB kE213 := aOK_of kal0 kcl0 ks213
/-- ColdShodModel.rowsAre(I)I -/
def kE214 : aE := (203, 3, ([], [], 0, [some (.inr [102]), some (.inl (.inl (.inr (.ofNat 2))))], []), ([], none), ([(.negSucc 11, .ofNat 1)], [], some (.inl (.inl (.inl (0, .ofNat 0)))), ([], [])), ([], []))
theorem ks214 : aseg kS krf kB [] (ksp []) kE214 [] 30000 (none) = true := by decide +kernel
theorem kok214 : aOK kS krf kB kE214 := aOK_of kal0 kcl0 ks214
/-- ColdShodModel.rowsAre(I)I -/
def kE215 : aE := (203, 3, ([], [], 0, [some (.inr [102]), some (.inl (.inl (.inr (.ofNat 1))))], []), ([], none), ([(.negSucc 11, .ofNat 1)], [], some (.inl (.inl (.inl (0, .ofNat 0)))), ([], [])), ([], []))
theorem ks215 : aseg kS krf kB [] (ksp []) kE215 [] 30000 (none) = true := by decide +kernel
theorem kok215 : aOK kS krf kB kE215 := aOK_of kal0 kcl0 ks215
/-- ColdShodModel.rowsAre(I)I -/
def kE216 : aE := (203, 3, ([], [], 0, [some (.inr [102]), some (.inl (.inl (.inr (.ofNat 0))))], []), ([], none), ([(.negSucc 11, .ofNat 1)], [], some (.inl (.inl (.inl (0, .ofNat 0)))), ([], [])), ([], []))
theorem ks216 : aseg kS krf kB [] (ksp []) kE216 [] 30000 (none) = true := by decide +kernel
theorem kok216 : aOK kS krf kB kE216 := aOK_of kal0 kcl0 ks216
/-- ColdShodModel.rowsAre(I)I -/
def kE217 : aE := (203, 2, ([(.ofNat 60, .ofNat 2147483647)], [], 0, [some (.inr [102]), some (.inl (.inl (.inl (0, .ofNat 0))))], []), ([], none), ([(.negSucc 0, .negSucc 0)], [], some (.inl (.inl (.inl (1, .ofNat 0)))), ([], [])), ([], []))
theorem ks217 : aseg kS krf kB [] (ksp []) kE217 [] 30000 (none) = true := by decide +kernel
theorem kok217 : aOK kS krf kB kE217 := aOK_of kal0 kcl0 ks217
/-- ColdShodModel.rowsAre(I)I -/
def kE218 : aE := (203, 0, ([(.negSucc 2147483647, .negSucc 0)], [], 0, [some (.inr [102]), some (.inl (.inl (.inl (0, .ofNat 0))))], []), ([], none), ([(.negSucc 0, .negSucc 0)], [], some (.inl (.inl (.inl (1, .ofNat 0)))), ([], [])), ([], []))
theorem ks218 : aseg kS krf kB [] (ksp []) kE218 [] 30000 (none) = true := by decide +kernel
theorem kok218 : aOK kS krf kB kE218 := aOK_of kal0 kcl0 ks218
/-- ColdShodModel.roadMany(I)I -/
def kE219 : aE := (187, 2, ([], [], 0, [some (.inr [102]), some (.inl (.inl (.inr (.ofNat 5)))), none], []), ([], none), ([(.ofNat 0, .ofNat 20)], [], some (.inl (.inl (.inl (0, .ofNat 0)))), ([], [(.ofNat 300, .inl (0, .ofNat 0))])), ([], []))
def kC219_0 : aC := (([(.ofNat 0, .ofNat 20)], [], 2, [some (.inr [102]), some (.inl (.inl (.inr (.ofNat 5)))), some (.inl (.inl (.inl (0, .ofNat 0))))], []), ([], [(.ofNat 300, .inl (0, .ofNat 0))]), (20, [(-1, 0)]))
theorem ks219 : aseg kS krf kB [] (ksp []) kE219 [kC219_0] 30000 (none) = true := by decide +kernel
theorem ks219_0 : aseg kS krf kB [] (ksp []) kE219 [kC219_0] 30000 (some kC219_0) = true := by decide +kernel
theorem kok219 : aOK kS krf kB kE219 := aOK_of kal0 (kcl1 ks219_0 kcl0) ks219
/-- ColdShodModel.firstFalse(II)I -/
def kE220 : aE := (204, 46, ([(.ofNat 0, .ofNat 7)], [], 0, [some (.inr [102]), some (.inl (.inl (.inr (.ofNat 55)))), some (.inl (.inl (.inl (0, .ofNat 0)))), none, none], []), ([], none), ([(.negSucc 1, .ofNat 21)], [], some (.inl (.inl (.inl (1, .ofNat 0)))), ([], [])), ([(102, 15), (102, 16), (102, 17), (102, 18), (102, 19), (102, 22), (102, 23), (111, 0), (111, 1), (111, 2), (111, 3), (111, 4), (111, 5)], [112]))
def kC220_0 : aC := (([(.ofNat 0, .ofNat 7), (.ofNat 0, .ofNat 21)], [], 10, [some (.inr [102]), some (.inl (.inl (.inr (.ofNat 55)))), some (.inl (.inl (.inl (0, .ofNat 0)))), some (.inl (.inl (.inr (.ofNat 1)))), some (.inl (.inl (.inl (1, .ofNat 0))))], []), ([], []), (21, [(-1, 1)]))
theorem ks220 : aseg kS krf kB [kE43, kE219, kE89] (ksp []) kE220 [kC220_0] 30000 (none) = true := by decide +kernel
theorem ks220_0 : aseg kS krf kB [kE43, kE219, kE89] (ksp []) kE220 [kC220_0] 30000 (some kC220_0) = true := by decide +kernel
theorem kok220 : aOK kS krf kB kE220 := aOK_of (kal1 kok43 (kal1 kok219 (kal1 kok89 kal0))) (kcl1 ks220_0 kcl0) ks220
/-- ColdShodModel.firstFalse(II)I -/
def kE221 : aE := (204, 46, ([(.ofNat 0, .ofNat 7)], [], 0, [some (.inr [102]), some (.inl (.inl (.inr (.ofNat 54)))), some (.inl (.inl (.inl (0, .ofNat 0)))), none, none], []), ([], none), ([(.negSucc 1, .ofNat 21)], [], some (.inl (.inl (.inl (1, .ofNat 0)))), ([], [])), ([(102, 15), (102, 16), (102, 17), (102, 18), (102, 19), (102, 22), (102, 23), (111, 0), (111, 1), (111, 2), (111, 3), (111, 4), (111, 5)], [112]))
def kC221_0 : aC := (([(.ofNat 0, .ofNat 7), (.ofNat 0, .ofNat 21)], [], 10, [some (.inr [102]), some (.inl (.inl (.inr (.ofNat 54)))), some (.inl (.inl (.inl (0, .ofNat 0)))), some (.inl (.inl (.inr (.ofNat 1)))), some (.inl (.inl (.inl (1, .ofNat 0))))], []), ([], []), (21, [(-1, 1)]))
theorem ks221 : aseg kS krf kB [kE43, kE219, kE89] (ksp []) kE221 [kC221_0] 30000 (none) = true := by decide +kernel
theorem ks221_0 : aseg kS krf kB [kE43, kE219, kE89] (ksp []) kE221 [kC221_0] 30000 (some kC221_0) = true := by decide +kernel
theorem kok221 : aOK kS krf kB kE221 := aOK_of (kal1 kok43 (kal1 kok219 (kal1 kok89 kal0))) (kcl1 ks221_0 kcl0) ks221
/-- ColdShodModel.firstFalse(II)I -/
def kE222 : aE := (204, 46, ([(.ofNat 0, .ofNat 7)], [], 0, [some (.inr [102]), some (.inl (.inl (.inr (.ofNat 53)))), some (.inl (.inl (.inl (0, .ofNat 0)))), none, none], []), ([], none), ([(.negSucc 1, .ofNat 21)], [], some (.inl (.inl (.inl (1, .ofNat 0)))), ([], [])), ([(102, 15), (102, 16), (102, 17), (102, 18), (102, 19), (102, 22), (102, 23), (111, 0), (111, 1), (111, 2), (111, 3), (111, 4), (111, 5)], [112]))
def kC222_0 : aC := (([(.ofNat 0, .ofNat 7), (.ofNat 0, .ofNat 21)], [], 10, [some (.inr [102]), some (.inl (.inl (.inr (.ofNat 53)))), some (.inl (.inl (.inl (0, .ofNat 0)))), some (.inl (.inl (.inr (.ofNat 1)))), some (.inl (.inl (.inl (1, .ofNat 0))))], []), ([], []), (21, [(-1, 1)]))
theorem ks222 : aseg kS krf kB [kE43, kE219, kE89] (ksp []) kE222 [kC222_0] 30000 (none) = true := by decide +kernel
theorem ks222_0 : aseg kS krf kB [kE43, kE219, kE89] (ksp []) kE222 [kC222_0] 30000 (some kC222_0) = true := by decide +kernel
theorem kok222 : aOK kS krf kB kE222 := aOK_of (kal1 kok43 (kal1 kok219 (kal1 kok89 kal0))) (kcl1 ks222_0 kcl0) ks222
/-- ColdShodModel.firstFalse(II)I -/
def kE223 : aE := (204, 46, ([(.ofNat 0, .ofNat 7)], [], 0, [some (.inr [102]), some (.inl (.inl (.inr (.ofNat 52)))), some (.inl (.inl (.inl (0, .ofNat 0)))), none, none], []), ([], none), ([(.negSucc 1, .ofNat 21)], [], some (.inl (.inl (.inl (1, .ofNat 0)))), ([], [])), ([(102, 15), (102, 16), (102, 17), (102, 18), (102, 19), (102, 22), (102, 23), (111, 0), (111, 1), (111, 2), (111, 3), (111, 4), (111, 5)], [112]))
def kC223_0 : aC := (([(.ofNat 0, .ofNat 7), (.ofNat 0, .ofNat 21)], [], 10, [some (.inr [102]), some (.inl (.inl (.inr (.ofNat 52)))), some (.inl (.inl (.inl (0, .ofNat 0)))), some (.inl (.inl (.inr (.ofNat 1)))), some (.inl (.inl (.inl (1, .ofNat 0))))], []), ([], []), (21, [(-1, 1)]))
theorem ks223 : aseg kS krf kB [kE43, kE219, kE89] (ksp []) kE223 [kC223_0] 30000 (none) = true := by decide +kernel
theorem ks223_0 : aseg kS krf kB [kE43, kE219, kE89] (ksp []) kE223 [kC223_0] 30000 (some kC223_0) = true := by decide +kernel
theorem kok223 : aOK kS krf kB kE223 := aOK_of (kal1 kok43 (kal1 kok219 (kal1 kok89 kal0))) (kcl1 ks223_0 kcl0) ks223
/-- ColdShodModel.firstFalse(II)I -/
def kE224 : aE := (204, 46, ([(.ofNat 0, .ofNat 7)], [], 0, [some (.inr [102]), some (.inl (.inl (.inr (.ofNat 51)))), some (.inl (.inl (.inl (0, .ofNat 0)))), none, none], []), ([], none), ([(.negSucc 1, .ofNat 21)], [], some (.inl (.inl (.inl (1, .ofNat 0)))), ([], [])), ([(102, 15), (102, 16), (102, 17), (102, 18), (102, 19), (102, 22), (102, 23), (111, 0), (111, 1), (111, 2), (111, 3), (111, 4), (111, 5)], [112]))
def kC224_0 : aC := (([(.ofNat 0, .ofNat 7), (.ofNat 0, .ofNat 21)], [], 10, [some (.inr [102]), some (.inl (.inl (.inr (.ofNat 51)))), some (.inl (.inl (.inl (0, .ofNat 0)))), some (.inl (.inl (.inr (.ofNat 1)))), some (.inl (.inl (.inl (1, .ofNat 0))))], []), ([], []), (21, [(-1, 1)]))
theorem ks224 : aseg kS krf kB [kE43, kE219, kE89] (ksp []) kE224 [kC224_0] 30000 (none) = true := by decide +kernel
theorem ks224_0 : aseg kS krf kB [kE43, kE219, kE89] (ksp []) kE224 [kC224_0] 30000 (some kC224_0) = true := by decide +kernel
theorem kok224 : aOK kS krf kB kE224 := aOK_of (kal1 kok43 (kal1 kok219 (kal1 kok89 kal0))) (kcl1 ks224_0 kcl0) ks224
/-- ColdShodModel.firstFalse(II)I -/
def kE225 : aE := (204, 46, ([(.ofNat 0, .ofNat 7)], [], 0, [some (.inr [102]), some (.inl (.inl (.inr (.ofNat 50)))), some (.inl (.inl (.inl (0, .ofNat 0)))), none, none], []), ([], none), ([(.negSucc 1, .ofNat 21)], [], some (.inl (.inl (.inl (1, .ofNat 0)))), ([], [])), ([(102, 15), (102, 16), (102, 17), (102, 18), (102, 19), (102, 22), (102, 23), (111, 0), (111, 1), (111, 2), (111, 3), (111, 4), (111, 5)], [112]))
def kC225_0 : aC := (([(.ofNat 0, .ofNat 7), (.ofNat 0, .ofNat 21)], [], 10, [some (.inr [102]), some (.inl (.inl (.inr (.ofNat 50)))), some (.inl (.inl (.inl (0, .ofNat 0)))), some (.inl (.inl (.inr (.ofNat 1)))), some (.inl (.inl (.inl (1, .ofNat 0))))], []), ([], []), (21, [(-1, 1)]))
theorem ks225 : aseg kS krf kB [kE43, kE219, kE89] (ksp []) kE225 [kC225_0] 30000 (none) = true := by decide +kernel
theorem ks225_0 : aseg kS krf kB [kE43, kE219, kE89] (ksp []) kE225 [kC225_0] 30000 (some kC225_0) = true := by decide +kernel
theorem kok225 : aOK kS krf kB kE225 := aOK_of (kal1 kok43 (kal1 kok219 (kal1 kok89 kal0))) (kcl1 ks225_0 kcl0) ks225
/-- ColdShodModel.roadMany(I)I -/
def kE226 : aE := (187, 2, ([], [], 0, [some (.inr [102]), some (.inl (.inl (.inr (.ofNat 4)))), none], []), ([], none), ([(.ofNat 0, .ofNat 20)], [], some (.inl (.inl (.inl (0, .ofNat 0)))), ([], [(.ofNat 240, .inl (0, .ofNat 0))])), ([], []))
def kC226_0 : aC := (([(.ofNat 0, .ofNat 20)], [], 2, [some (.inr [102]), some (.inl (.inl (.inr (.ofNat 4)))), some (.inl (.inl (.inl (0, .ofNat 0))))], []), ([], [(.ofNat 240, .inl (0, .ofNat 0))]), (20, [(-1, 0)]))
theorem ks226 : aseg kS krf kB [] (ksp []) kE226 [kC226_0] 30000 (none) = true := by decide +kernel
theorem ks226_0 : aseg kS krf kB [] (ksp []) kE226 [kC226_0] 30000 (some kC226_0) = true := by decide +kernel
theorem kok226 : aOK kS krf kB kE226 := aOK_of kal0 (kcl1 ks226_0 kcl0) ks226
/-- ColdShodModel.firstFalse(II)I -/
def kE227 : aE := (204, 46, ([(.ofNat 0, .ofNat 7)], [], 0, [some (.inr [102]), some (.inl (.inl (.inr (.ofNat 45)))), some (.inl (.inl (.inl (0, .ofNat 0)))), none, none], []), ([], none), ([(.negSucc 1, .ofNat 21)], [], some (.inl (.inl (.inl (1, .ofNat 0)))), ([], [])), ([(102, 15), (102, 16), (102, 17), (102, 18), (102, 19), (102, 22), (102, 23), (111, 0), (111, 1), (111, 2), (111, 3), (111, 4), (111, 5)], [112]))
def kC227_0 : aC := (([(.ofNat 0, .ofNat 7), (.ofNat 0, .ofNat 21)], [], 10, [some (.inr [102]), some (.inl (.inl (.inr (.ofNat 45)))), some (.inl (.inl (.inl (0, .ofNat 0)))), some (.inl (.inl (.inr (.ofNat 1)))), some (.inl (.inl (.inl (1, .ofNat 0))))], []), ([], []), (21, [(-1, 1)]))
theorem ks227 : aseg kS krf kB [kE43, kE226, kE89] (ksp []) kE227 [kC227_0] 30000 (none) = true := by decide +kernel
theorem ks227_0 : aseg kS krf kB [kE43, kE226, kE89] (ksp []) kE227 [kC227_0] 30000 (some kC227_0) = true := by decide +kernel
theorem kok227 : aOK kS krf kB kE227 := aOK_of (kal1 kok43 (kal1 kok226 (kal1 kok89 kal0))) (kcl1 ks227_0 kcl0) ks227
/-- ColdShodModel.firstFalse(II)I -/
def kE228 : aE := (204, 46, ([(.ofNat 0, .ofNat 7)], [], 0, [some (.inr [102]), some (.inl (.inl (.inr (.ofNat 44)))), some (.inl (.inl (.inl (0, .ofNat 0)))), none, none], []), ([], none), ([(.negSucc 1, .ofNat 21)], [], some (.inl (.inl (.inl (1, .ofNat 0)))), ([], [])), ([(102, 15), (102, 16), (102, 17), (102, 18), (102, 19), (102, 22), (102, 23), (111, 0), (111, 1), (111, 2), (111, 3), (111, 4), (111, 5)], [112]))
def kC228_0 : aC := (([(.ofNat 0, .ofNat 7), (.ofNat 0, .ofNat 21)], [], 10, [some (.inr [102]), some (.inl (.inl (.inr (.ofNat 44)))), some (.inl (.inl (.inl (0, .ofNat 0)))), some (.inl (.inl (.inr (.ofNat 1)))), some (.inl (.inl (.inl (1, .ofNat 0))))], []), ([], []), (21, [(-1, 1)]))
theorem ks228 : aseg kS krf kB [kE43, kE226, kE89] (ksp []) kE228 [kC228_0] 30000 (none) = true := by decide +kernel
theorem ks228_0 : aseg kS krf kB [kE43, kE226, kE89] (ksp []) kE228 [kC228_0] 30000 (some kC228_0) = true := by decide +kernel
theorem kok228 : aOK kS krf kB kE228 := aOK_of (kal1 kok43 (kal1 kok226 (kal1 kok89 kal0))) (kcl1 ks228_0 kcl0) ks228
/-- ColdShodModel.firstFalse(II)I -/
def kE229 : aE := (204, 46, ([(.ofNat 0, .ofNat 7)], [], 0, [some (.inr [102]), some (.inl (.inl (.inr (.ofNat 43)))), some (.inl (.inl (.inl (0, .ofNat 0)))), none, none], []), ([], none), ([(.negSucc 1, .ofNat 21)], [], some (.inl (.inl (.inl (1, .ofNat 0)))), ([], [])), ([(102, 15), (102, 16), (102, 17), (102, 18), (102, 19), (102, 22), (102, 23), (111, 0), (111, 1), (111, 2), (111, 3), (111, 4), (111, 5)], [112]))
def kC229_0 : aC := (([(.ofNat 0, .ofNat 7), (.ofNat 0, .ofNat 21)], [], 10, [some (.inr [102]), some (.inl (.inl (.inr (.ofNat 43)))), some (.inl (.inl (.inl (0, .ofNat 0)))), some (.inl (.inl (.inr (.ofNat 1)))), some (.inl (.inl (.inl (1, .ofNat 0))))], []), ([], []), (21, [(-1, 1)]))
theorem ks229 : aseg kS krf kB [kE43, kE226, kE89] (ksp []) kE229 [kC229_0] 30000 (none) = true := by decide +kernel
theorem ks229_0 : aseg kS krf kB [kE43, kE226, kE89] (ksp []) kE229 [kC229_0] 30000 (some kC229_0) = true := by decide +kernel
theorem kok229 : aOK kS krf kB kE229 := aOK_of (kal1 kok43 (kal1 kok226 (kal1 kok89 kal0))) (kcl1 ks229_0 kcl0) ks229
/-- ColdShodModel.firstFalse(II)I -/
def kE230 : aE := (204, 46, ([(.ofNat 0, .ofNat 7)], [], 0, [some (.inr [102]), some (.inl (.inl (.inr (.ofNat 42)))), some (.inl (.inl (.inl (0, .ofNat 0)))), none, none], []), ([], none), ([(.negSucc 1, .ofNat 21)], [], some (.inl (.inl (.inl (1, .ofNat 0)))), ([], [])), ([(102, 15), (102, 16), (102, 17), (102, 18), (102, 19), (102, 22), (102, 23), (111, 0), (111, 1), (111, 2), (111, 3), (111, 4), (111, 5)], [112]))
def kC230_0 : aC := (([(.ofNat 0, .ofNat 7), (.ofNat 0, .ofNat 21)], [], 10, [some (.inr [102]), some (.inl (.inl (.inr (.ofNat 42)))), some (.inl (.inl (.inl (0, .ofNat 0)))), some (.inl (.inl (.inr (.ofNat 1)))), some (.inl (.inl (.inl (1, .ofNat 0))))], []), ([], []), (21, [(-1, 1)]))
theorem ks230 : aseg kS krf kB [kE43, kE226, kE89] (ksp []) kE230 [kC230_0] 30000 (none) = true := by decide +kernel
theorem ks230_0 : aseg kS krf kB [kE43, kE226, kE89] (ksp []) kE230 [kC230_0] 30000 (some kC230_0) = true := by decide +kernel
theorem kok230 : aOK kS krf kB kE230 := aOK_of (kal1 kok43 (kal1 kok226 (kal1 kok89 kal0))) (kcl1 ks230_0 kcl0) ks230
/-- ColdShodModel.firstFalse(II)I -/
def kE231 : aE := (204, 46, ([(.ofNat 0, .ofNat 7)], [], 0, [some (.inr [102]), some (.inl (.inl (.inr (.ofNat 41)))), some (.inl (.inl (.inl (0, .ofNat 0)))), none, none], []), ([], none), ([(.negSucc 1, .ofNat 21)], [], some (.inl (.inl (.inl (1, .ofNat 0)))), ([], [])), ([(102, 15), (102, 16), (102, 17), (102, 18), (102, 19), (102, 22), (102, 23), (111, 0), (111, 1), (111, 2), (111, 3), (111, 4), (111, 5)], [112]))
def kC231_0 : aC := (([(.ofNat 0, .ofNat 7), (.ofNat 0, .ofNat 21)], [], 10, [some (.inr [102]), some (.inl (.inl (.inr (.ofNat 41)))), some (.inl (.inl (.inl (0, .ofNat 0)))), some (.inl (.inl (.inr (.ofNat 1)))), some (.inl (.inl (.inl (1, .ofNat 0))))], []), ([], []), (21, [(-1, 1)]))
theorem ks231 : aseg kS krf kB [kE43, kE226, kE89] (ksp []) kE231 [kC231_0] 30000 (none) = true := by decide +kernel
theorem ks231_0 : aseg kS krf kB [kE43, kE226, kE89] (ksp []) kE231 [kC231_0] 30000 (some kC231_0) = true := by decide +kernel
theorem kok231 : aOK kS krf kB kE231 := aOK_of (kal1 kok43 (kal1 kok226 (kal1 kok89 kal0))) (kcl1 ks231_0 kcl0) ks231
/-- ColdShodModel.firstFalse(II)I -/
def kE232 : aE := (204, 46, ([(.ofNat 0, .ofNat 7)], [], 0, [some (.inr [102]), some (.inl (.inl (.inr (.ofNat 40)))), some (.inl (.inl (.inl (0, .ofNat 0)))), none, none], []), ([], none), ([(.negSucc 1, .ofNat 21)], [], some (.inl (.inl (.inl (1, .ofNat 0)))), ([], [])), ([(102, 15), (102, 16), (102, 17), (102, 18), (102, 19), (102, 22), (102, 23), (111, 0), (111, 1), (111, 2), (111, 3), (111, 4), (111, 5)], [112]))
def kC232_0 : aC := (([(.ofNat 0, .ofNat 7), (.ofNat 0, .ofNat 21)], [], 10, [some (.inr [102]), some (.inl (.inl (.inr (.ofNat 40)))), some (.inl (.inl (.inl (0, .ofNat 0)))), some (.inl (.inl (.inr (.ofNat 1)))), some (.inl (.inl (.inl (1, .ofNat 0))))], []), ([], []), (21, [(-1, 1)]))
theorem ks232 : aseg kS krf kB [kE43, kE226, kE89] (ksp []) kE232 [kC232_0] 30000 (none) = true := by decide +kernel
theorem ks232_0 : aseg kS krf kB [kE43, kE226, kE89] (ksp []) kE232 [kC232_0] 30000 (some kC232_0) = true := by decide +kernel
theorem kok232 : aOK kS krf kB kE232 := aOK_of (kal1 kok43 (kal1 kok226 (kal1 kok89 kal0))) (kcl1 ks232_0 kcl0) ks232
/-- ColdShodModel.roadMany(I)I -/
def kE233 : aE := (187, 2, ([], [], 0, [some (.inr [102]), some (.inl (.inl (.inr (.ofNat 3)))), none], []), ([], none), ([(.ofNat 0, .ofNat 20)], [], some (.inl (.inl (.inl (0, .ofNat 0)))), ([], [(.ofNat 180, .inl (0, .ofNat 0))])), ([], []))
def kC233_0 : aC := (([(.ofNat 0, .ofNat 20)], [], 2, [some (.inr [102]), some (.inl (.inl (.inr (.ofNat 3)))), some (.inl (.inl (.inl (0, .ofNat 0))))], []), ([], [(.ofNat 180, .inl (0, .ofNat 0))]), (20, [(-1, 0)]))
theorem ks233 : aseg kS krf kB [] (ksp []) kE233 [kC233_0] 30000 (none) = true := by decide +kernel
theorem ks233_0 : aseg kS krf kB [] (ksp []) kE233 [kC233_0] 30000 (some kC233_0) = true := by decide +kernel
theorem kok233 : aOK kS krf kB kE233 := aOK_of kal0 (kcl1 ks233_0 kcl0) ks233
/-- ColdShodModel.firstFalse(II)I -/
def kE234 : aE := (204, 46, ([(.ofNat 0, .ofNat 7)], [], 0, [some (.inr [102]), some (.inl (.inl (.inr (.ofNat 35)))), some (.inl (.inl (.inl (0, .ofNat 0)))), none, none], []), ([], none), ([(.negSucc 1, .ofNat 21)], [], some (.inl (.inl (.inl (1, .ofNat 0)))), ([], [])), ([(102, 15), (102, 16), (102, 17), (102, 18), (102, 19), (102, 22), (102, 23), (111, 0), (111, 1), (111, 2), (111, 3), (111, 4), (111, 5)], [112]))
def kC234_0 : aC := (([(.ofNat 0, .ofNat 7), (.ofNat 0, .ofNat 21)], [], 10, [some (.inr [102]), some (.inl (.inl (.inr (.ofNat 35)))), some (.inl (.inl (.inl (0, .ofNat 0)))), some (.inl (.inl (.inr (.ofNat 1)))), some (.inl (.inl (.inl (1, .ofNat 0))))], []), ([], []), (21, [(-1, 1)]))
theorem ks234 : aseg kS krf kB [kE43, kE233, kE89] (ksp []) kE234 [kC234_0] 30000 (none) = true := by decide +kernel
theorem ks234_0 : aseg kS krf kB [kE43, kE233, kE89] (ksp []) kE234 [kC234_0] 30000 (some kC234_0) = true := by decide +kernel
theorem kok234 : aOK kS krf kB kE234 := aOK_of (kal1 kok43 (kal1 kok233 (kal1 kok89 kal0))) (kcl1 ks234_0 kcl0) ks234
/-- ColdShodModel.firstFalse(II)I -/
def kE235 : aE := (204, 46, ([(.ofNat 0, .ofNat 7)], [], 0, [some (.inr [102]), some (.inl (.inl (.inr (.ofNat 34)))), some (.inl (.inl (.inl (0, .ofNat 0)))), none, none], []), ([], none), ([(.negSucc 1, .ofNat 21)], [], some (.inl (.inl (.inl (1, .ofNat 0)))), ([], [])), ([(102, 15), (102, 16), (102, 17), (102, 18), (102, 19), (102, 22), (102, 23), (111, 0), (111, 1), (111, 2), (111, 3), (111, 4), (111, 5)], [112]))
def kC235_0 : aC := (([(.ofNat 0, .ofNat 7), (.ofNat 0, .ofNat 21)], [], 10, [some (.inr [102]), some (.inl (.inl (.inr (.ofNat 34)))), some (.inl (.inl (.inl (0, .ofNat 0)))), some (.inl (.inl (.inr (.ofNat 1)))), some (.inl (.inl (.inl (1, .ofNat 0))))], []), ([], []), (21, [(-1, 1)]))
theorem ks235 : aseg kS krf kB [kE43, kE233, kE89] (ksp []) kE235 [kC235_0] 30000 (none) = true := by decide +kernel
theorem ks235_0 : aseg kS krf kB [kE43, kE233, kE89] (ksp []) kE235 [kC235_0] 30000 (some kC235_0) = true := by decide +kernel
theorem kok235 : aOK kS krf kB kE235 := aOK_of (kal1 kok43 (kal1 kok233 (kal1 kok89 kal0))) (kcl1 ks235_0 kcl0) ks235
/-- ColdShodModel.firstFalse(II)I -/
def kE236 : aE := (204, 46, ([(.ofNat 0, .ofNat 7)], [], 0, [some (.inr [102]), some (.inl (.inl (.inr (.ofNat 33)))), some (.inl (.inl (.inl (0, .ofNat 0)))), none, none], []), ([], none), ([(.negSucc 1, .ofNat 21)], [], some (.inl (.inl (.inl (1, .ofNat 0)))), ([], [])), ([(102, 15), (102, 16), (102, 17), (102, 18), (102, 19), (102, 22), (102, 23), (111, 0), (111, 1), (111, 2), (111, 3), (111, 4), (111, 5)], [112]))
def kC236_0 : aC := (([(.ofNat 0, .ofNat 7), (.ofNat 0, .ofNat 21)], [], 10, [some (.inr [102]), some (.inl (.inl (.inr (.ofNat 33)))), some (.inl (.inl (.inl (0, .ofNat 0)))), some (.inl (.inl (.inr (.ofNat 1)))), some (.inl (.inl (.inl (1, .ofNat 0))))], []), ([], []), (21, [(-1, 1)]))
theorem ks236 : aseg kS krf kB [kE43, kE233, kE89] (ksp []) kE236 [kC236_0] 30000 (none) = true := by decide +kernel
theorem ks236_0 : aseg kS krf kB [kE43, kE233, kE89] (ksp []) kE236 [kC236_0] 30000 (some kC236_0) = true := by decide +kernel
theorem kok236 : aOK kS krf kB kE236 := aOK_of (kal1 kok43 (kal1 kok233 (kal1 kok89 kal0))) (kcl1 ks236_0 kcl0) ks236
/-- ColdShodModel.firstFalse(II)I -/
def kE237 : aE := (204, 46, ([(.ofNat 0, .ofNat 7)], [], 0, [some (.inr [102]), some (.inl (.inl (.inr (.ofNat 32)))), some (.inl (.inl (.inl (0, .ofNat 0)))), none, none], []), ([], none), ([(.negSucc 1, .ofNat 21)], [], some (.inl (.inl (.inl (1, .ofNat 0)))), ([], [])), ([(102, 15), (102, 16), (102, 17), (102, 18), (102, 19), (102, 22), (102, 23), (111, 0), (111, 1), (111, 2), (111, 3), (111, 4), (111, 5)], [112]))
def kC237_0 : aC := (([(.ofNat 0, .ofNat 7), (.ofNat 0, .ofNat 21)], [], 10, [some (.inr [102]), some (.inl (.inl (.inr (.ofNat 32)))), some (.inl (.inl (.inl (0, .ofNat 0)))), some (.inl (.inl (.inr (.ofNat 1)))), some (.inl (.inl (.inl (1, .ofNat 0))))], []), ([], []), (21, [(-1, 1)]))
theorem ks237 : aseg kS krf kB [kE43, kE233, kE89] (ksp []) kE237 [kC237_0] 30000 (none) = true := by decide +kernel
theorem ks237_0 : aseg kS krf kB [kE43, kE233, kE89] (ksp []) kE237 [kC237_0] 30000 (some kC237_0) = true := by decide +kernel
theorem kok237 : aOK kS krf kB kE237 := aOK_of (kal1 kok43 (kal1 kok233 (kal1 kok89 kal0))) (kcl1 ks237_0 kcl0) ks237
/-- ColdShodModel.firstFalse(II)I -/
def kE238 : aE := (204, 46, ([(.ofNat 0, .ofNat 7)], [], 0, [some (.inr [102]), some (.inl (.inl (.inr (.ofNat 31)))), some (.inl (.inl (.inl (0, .ofNat 0)))), none, none], []), ([], none), ([(.negSucc 1, .ofNat 21)], [], some (.inl (.inl (.inl (1, .ofNat 0)))), ([], [])), ([(102, 15), (102, 16), (102, 17), (102, 18), (102, 19), (102, 22), (102, 23), (111, 0), (111, 1), (111, 2), (111, 3), (111, 4), (111, 5)], [112]))
def kC238_0 : aC := (([(.ofNat 0, .ofNat 7), (.ofNat 0, .ofNat 21)], [], 10, [some (.inr [102]), some (.inl (.inl (.inr (.ofNat 31)))), some (.inl (.inl (.inl (0, .ofNat 0)))), some (.inl (.inl (.inr (.ofNat 1)))), some (.inl (.inl (.inl (1, .ofNat 0))))], []), ([], []), (21, [(-1, 1)]))
theorem ks238 : aseg kS krf kB [kE43, kE233, kE89] (ksp []) kE238 [kC238_0] 30000 (none) = true := by decide +kernel
theorem ks238_0 : aseg kS krf kB [kE43, kE233, kE89] (ksp []) kE238 [kC238_0] 30000 (some kC238_0) = true := by decide +kernel
theorem kok238 : aOK kS krf kB kE238 := aOK_of (kal1 kok43 (kal1 kok233 (kal1 kok89 kal0))) (kcl1 ks238_0 kcl0) ks238
/-- ColdShodModel.firstFalse(II)I -/
def kE239 : aE := (204, 46, ([(.ofNat 0, .ofNat 7)], [], 0, [some (.inr [102]), some (.inl (.inl (.inr (.ofNat 30)))), some (.inl (.inl (.inl (0, .ofNat 0)))), none, none], []), ([], none), ([(.negSucc 1, .ofNat 21)], [], some (.inl (.inl (.inl (1, .ofNat 0)))), ([], [])), ([(102, 15), (102, 16), (102, 17), (102, 18), (102, 19), (102, 22), (102, 23), (111, 0), (111, 1), (111, 2), (111, 3), (111, 4), (111, 5)], [112]))
def kC239_0 : aC := (([(.ofNat 0, .ofNat 7), (.ofNat 0, .ofNat 21)], [], 10, [some (.inr [102]), some (.inl (.inl (.inr (.ofNat 30)))), some (.inl (.inl (.inl (0, .ofNat 0)))), some (.inl (.inl (.inr (.ofNat 1)))), some (.inl (.inl (.inl (1, .ofNat 0))))], []), ([], []), (21, [(-1, 1)]))
theorem ks239 : aseg kS krf kB [kE43, kE233, kE89] (ksp []) kE239 [kC239_0] 30000 (none) = true := by decide +kernel
theorem ks239_0 : aseg kS krf kB [kE43, kE233, kE89] (ksp []) kE239 [kC239_0] 30000 (some kC239_0) = true := by decide +kernel
theorem kok239 : aOK kS krf kB kE239 := aOK_of (kal1 kok43 (kal1 kok233 (kal1 kok89 kal0))) (kcl1 ks239_0 kcl0) ks239
/-- ColdShodModel.roadMany(I)I -/
def kE240 : aE := (187, 2, ([], [], 0, [some (.inr [102]), some (.inl (.inl (.inr (.ofNat 2)))), none], []), ([], none), ([(.ofNat 0, .ofNat 20)], [], some (.inl (.inl (.inl (0, .ofNat 0)))), ([], [(.ofNat 120, .inl (0, .ofNat 0))])), ([], []))
def kC240_0 : aC := (([(.ofNat 0, .ofNat 20)], [], 2, [some (.inr [102]), some (.inl (.inl (.inr (.ofNat 2)))), some (.inl (.inl (.inl (0, .ofNat 0))))], []), ([], [(.ofNat 120, .inl (0, .ofNat 0))]), (20, [(-1, 0)]))
theorem ks240 : aseg kS krf kB [] (ksp []) kE240 [kC240_0] 30000 (none) = true := by decide +kernel
theorem ks240_0 : aseg kS krf kB [] (ksp []) kE240 [kC240_0] 30000 (some kC240_0) = true := by decide +kernel
theorem kok240 : aOK kS krf kB kE240 := aOK_of kal0 (kcl1 ks240_0 kcl0) ks240
/-- ColdShodModel.firstFalse(II)I -/
def kE241 : aE := (204, 46, ([(.ofNat 0, .ofNat 7)], [], 0, [some (.inr [102]), some (.inl (.inl (.inr (.ofNat 25)))), some (.inl (.inl (.inl (0, .ofNat 0)))), none, none], []), ([], none), ([(.negSucc 1, .ofNat 21)], [], some (.inl (.inl (.inl (1, .ofNat 0)))), ([], [])), ([(102, 15), (102, 16), (102, 17), (102, 18), (102, 19), (102, 22), (102, 23), (111, 0), (111, 1), (111, 2), (111, 3), (111, 4), (111, 5)], [112]))
def kC241_0 : aC := (([(.ofNat 0, .ofNat 7), (.ofNat 0, .ofNat 21)], [], 10, [some (.inr [102]), some (.inl (.inl (.inr (.ofNat 25)))), some (.inl (.inl (.inl (0, .ofNat 0)))), some (.inl (.inl (.inr (.ofNat 1)))), some (.inl (.inl (.inl (1, .ofNat 0))))], []), ([], []), (21, [(-1, 1)]))
theorem ks241 : aseg kS krf kB [kE43, kE240, kE89] (ksp []) kE241 [kC241_0] 30000 (none) = true := by decide +kernel
theorem ks241_0 : aseg kS krf kB [kE43, kE240, kE89] (ksp []) kE241 [kC241_0] 30000 (some kC241_0) = true := by decide +kernel
theorem kok241 : aOK kS krf kB kE241 := aOK_of (kal1 kok43 (kal1 kok240 (kal1 kok89 kal0))) (kcl1 ks241_0 kcl0) ks241
/-- ColdShodModel.firstFalse(II)I -/
def kE242 : aE := (204, 46, ([(.ofNat 0, .ofNat 7)], [], 0, [some (.inr [102]), some (.inl (.inl (.inr (.ofNat 24)))), some (.inl (.inl (.inl (0, .ofNat 0)))), none, none], []), ([], none), ([(.negSucc 1, .ofNat 21)], [], some (.inl (.inl (.inl (1, .ofNat 0)))), ([], [])), ([(102, 15), (102, 16), (102, 17), (102, 18), (102, 19), (102, 22), (102, 23), (111, 0), (111, 1), (111, 2), (111, 3), (111, 4), (111, 5)], [112]))
def kC242_0 : aC := (([(.ofNat 0, .ofNat 7), (.ofNat 0, .ofNat 21)], [], 10, [some (.inr [102]), some (.inl (.inl (.inr (.ofNat 24)))), some (.inl (.inl (.inl (0, .ofNat 0)))), some (.inl (.inl (.inr (.ofNat 1)))), some (.inl (.inl (.inl (1, .ofNat 0))))], []), ([], []), (21, [(-1, 1)]))
theorem ks242 : aseg kS krf kB [kE43, kE240, kE89] (ksp []) kE242 [kC242_0] 30000 (none) = true := by decide +kernel
theorem ks242_0 : aseg kS krf kB [kE43, kE240, kE89] (ksp []) kE242 [kC242_0] 30000 (some kC242_0) = true := by decide +kernel
theorem kok242 : aOK kS krf kB kE242 := aOK_of (kal1 kok43 (kal1 kok240 (kal1 kok89 kal0))) (kcl1 ks242_0 kcl0) ks242
/-- ColdShodModel.firstFalse(II)I -/
def kE243 : aE := (204, 46, ([(.ofNat 0, .ofNat 7)], [], 0, [some (.inr [102]), some (.inl (.inl (.inr (.ofNat 23)))), some (.inl (.inl (.inl (0, .ofNat 0)))), none, none], []), ([], none), ([(.negSucc 1, .ofNat 21)], [], some (.inl (.inl (.inl (1, .ofNat 0)))), ([], [])), ([(102, 15), (102, 16), (102, 17), (102, 18), (102, 19), (102, 22), (102, 23), (111, 0), (111, 1), (111, 2), (111, 3), (111, 4), (111, 5)], [112]))
def kC243_0 : aC := (([(.ofNat 0, .ofNat 7), (.ofNat 0, .ofNat 21)], [], 10, [some (.inr [102]), some (.inl (.inl (.inr (.ofNat 23)))), some (.inl (.inl (.inl (0, .ofNat 0)))), some (.inl (.inl (.inr (.ofNat 1)))), some (.inl (.inl (.inl (1, .ofNat 0))))], []), ([], []), (21, [(-1, 1)]))
theorem ks243 : aseg kS krf kB [kE43, kE240, kE89] (ksp []) kE243 [kC243_0] 30000 (none) = true := by decide +kernel
theorem ks243_0 : aseg kS krf kB [kE43, kE240, kE89] (ksp []) kE243 [kC243_0] 30000 (some kC243_0) = true := by decide +kernel
theorem kok243 : aOK kS krf kB kE243 := aOK_of (kal1 kok43 (kal1 kok240 (kal1 kok89 kal0))) (kcl1 ks243_0 kcl0) ks243
/-- ColdShodModel.firstFalse(II)I -/
def kE244 : aE := (204, 46, ([(.ofNat 0, .ofNat 7)], [], 0, [some (.inr [102]), some (.inl (.inl (.inr (.ofNat 22)))), some (.inl (.inl (.inl (0, .ofNat 0)))), none, none], []), ([], none), ([(.negSucc 1, .ofNat 21)], [], some (.inl (.inl (.inl (1, .ofNat 0)))), ([], [])), ([(102, 15), (102, 16), (102, 17), (102, 18), (102, 19), (102, 22), (102, 23), (111, 0), (111, 1), (111, 2), (111, 3), (111, 4), (111, 5)], [112]))
def kC244_0 : aC := (([(.ofNat 0, .ofNat 7), (.ofNat 0, .ofNat 21)], [], 10, [some (.inr [102]), some (.inl (.inl (.inr (.ofNat 22)))), some (.inl (.inl (.inl (0, .ofNat 0)))), some (.inl (.inl (.inr (.ofNat 1)))), some (.inl (.inl (.inl (1, .ofNat 0))))], []), ([], []), (21, [(-1, 1)]))
theorem ks244 : aseg kS krf kB [kE43, kE240, kE89] (ksp []) kE244 [kC244_0] 30000 (none) = true := by decide +kernel
theorem ks244_0 : aseg kS krf kB [kE43, kE240, kE89] (ksp []) kE244 [kC244_0] 30000 (some kC244_0) = true := by decide +kernel
theorem kok244 : aOK kS krf kB kE244 := aOK_of (kal1 kok43 (kal1 kok240 (kal1 kok89 kal0))) (kcl1 ks244_0 kcl0) ks244
/-- ColdShodModel.firstFalse(II)I -/
def kE245 : aE := (204, 46, ([(.ofNat 0, .ofNat 7)], [], 0, [some (.inr [102]), some (.inl (.inl (.inr (.ofNat 21)))), some (.inl (.inl (.inl (0, .ofNat 0)))), none, none], []), ([], none), ([(.negSucc 1, .ofNat 21)], [], some (.inl (.inl (.inl (1, .ofNat 0)))), ([], [])), ([(102, 15), (102, 16), (102, 17), (102, 18), (102, 19), (102, 22), (102, 23), (111, 0), (111, 1), (111, 2), (111, 3), (111, 4), (111, 5)], [112]))
def kC245_0 : aC := (([(.ofNat 0, .ofNat 7), (.ofNat 0, .ofNat 21)], [], 10, [some (.inr [102]), some (.inl (.inl (.inr (.ofNat 21)))), some (.inl (.inl (.inl (0, .ofNat 0)))), some (.inl (.inl (.inr (.ofNat 1)))), some (.inl (.inl (.inl (1, .ofNat 0))))], []), ([], []), (21, [(-1, 1)]))
theorem ks245 : aseg kS krf kB [kE43, kE240, kE89] (ksp []) kE245 [kC245_0] 30000 (none) = true := by decide +kernel
theorem ks245_0 : aseg kS krf kB [kE43, kE240, kE89] (ksp []) kE245 [kC245_0] 30000 (some kC245_0) = true := by decide +kernel
theorem kok245 : aOK kS krf kB kE245 := aOK_of (kal1 kok43 (kal1 kok240 (kal1 kok89 kal0))) (kcl1 ks245_0 kcl0) ks245
/-- ColdShodModel.firstFalse(II)I -/
def kE246 : aE := (204, 46, ([(.ofNat 0, .ofNat 7)], [], 0, [some (.inr [102]), some (.inl (.inl (.inr (.ofNat 20)))), some (.inl (.inl (.inl (0, .ofNat 0)))), none, none], []), ([], none), ([(.negSucc 1, .ofNat 21)], [], some (.inl (.inl (.inl (1, .ofNat 0)))), ([], [])), ([(102, 15), (102, 16), (102, 17), (102, 18), (102, 19), (102, 22), (102, 23), (111, 0), (111, 1), (111, 2), (111, 3), (111, 4), (111, 5)], [112]))
def kC246_0 : aC := (([(.ofNat 0, .ofNat 7), (.ofNat 0, .ofNat 21)], [], 10, [some (.inr [102]), some (.inl (.inl (.inr (.ofNat 20)))), some (.inl (.inl (.inl (0, .ofNat 0)))), some (.inl (.inl (.inr (.ofNat 1)))), some (.inl (.inl (.inl (1, .ofNat 0))))], []), ([], []), (21, [(-1, 1)]))
theorem ks246 : aseg kS krf kB [kE43, kE240, kE89] (ksp []) kE246 [kC246_0] 30000 (none) = true := by decide +kernel
theorem ks246_0 : aseg kS krf kB [kE43, kE240, kE89] (ksp []) kE246 [kC246_0] 30000 (some kC246_0) = true := by decide +kernel
theorem kok246 : aOK kS krf kB kE246 := aOK_of (kal1 kok43 (kal1 kok240 (kal1 kok89 kal0))) (kcl1 ks246_0 kcl0) ks246
/-- ColdShodModel.roadMany(I)I -/
def kE247 : aE := (187, 2, ([], [], 0, [some (.inr [102]), some (.inl (.inl (.inr (.ofNat 1)))), none], []), ([], none), ([(.ofNat 0, .ofNat 20)], [], some (.inl (.inl (.inl (0, .ofNat 0)))), ([], [(.ofNat 60, .inl (0, .ofNat 0))])), ([], []))
def kC247_0 : aC := (([(.ofNat 0, .ofNat 20)], [], 2, [some (.inr [102]), some (.inl (.inl (.inr (.ofNat 1)))), some (.inl (.inl (.inl (0, .ofNat 0))))], []), ([], [(.ofNat 60, .inl (0, .ofNat 0))]), (20, [(-1, 0)]))
theorem ks247 : aseg kS krf kB [] (ksp []) kE247 [kC247_0] 30000 (none) = true := by decide +kernel
theorem ks247_0 : aseg kS krf kB [] (ksp []) kE247 [kC247_0] 30000 (some kC247_0) = true := by decide +kernel
theorem kok247 : aOK kS krf kB kE247 := aOK_of kal0 (kcl1 ks247_0 kcl0) ks247
/-- ColdShodModel.firstFalse(II)I -/
def kE248 : aE := (204, 46, ([(.ofNat 0, .ofNat 7)], [], 0, [some (.inr [102]), some (.inl (.inl (.inr (.ofNat 15)))), some (.inl (.inl (.inl (0, .ofNat 0)))), none, none], []), ([], none), ([(.negSucc 1, .ofNat 21)], [], some (.inl (.inl (.inl (1, .ofNat 0)))), ([], [])), ([(102, 15), (102, 16), (102, 17), (102, 18), (102, 19), (102, 22), (102, 23), (111, 0), (111, 1), (111, 2), (111, 3), (111, 4), (111, 5)], [112]))
def kC248_0 : aC := (([(.ofNat 0, .ofNat 7), (.ofNat 0, .ofNat 21)], [], 10, [some (.inr [102]), some (.inl (.inl (.inr (.ofNat 15)))), some (.inl (.inl (.inl (0, .ofNat 0)))), some (.inl (.inl (.inr (.ofNat 1)))), some (.inl (.inl (.inl (1, .ofNat 0))))], []), ([], []), (21, [(-1, 1)]))
theorem ks248 : aseg kS krf kB [kE43, kE247, kE89] (ksp []) kE248 [kC248_0] 30000 (none) = true := by decide +kernel
theorem ks248_0 : aseg kS krf kB [kE43, kE247, kE89] (ksp []) kE248 [kC248_0] 30000 (some kC248_0) = true := by decide +kernel
theorem kok248 : aOK kS krf kB kE248 := aOK_of (kal1 kok43 (kal1 kok247 (kal1 kok89 kal0))) (kcl1 ks248_0 kcl0) ks248
/-- ColdShodModel.firstFalse(II)I -/
def kE249 : aE := (204, 46, ([(.ofNat 0, .ofNat 7)], [], 0, [some (.inr [102]), some (.inl (.inl (.inr (.ofNat 14)))), some (.inl (.inl (.inl (0, .ofNat 0)))), none, none], []), ([], none), ([(.negSucc 1, .ofNat 21)], [], some (.inl (.inl (.inl (1, .ofNat 0)))), ([], [])), ([(102, 15), (102, 16), (102, 17), (102, 18), (102, 19), (102, 22), (102, 23), (111, 0), (111, 1), (111, 2), (111, 3), (111, 4), (111, 5)], [112]))
def kC249_0 : aC := (([(.ofNat 0, .ofNat 7), (.ofNat 0, .ofNat 21)], [], 10, [some (.inr [102]), some (.inl (.inl (.inr (.ofNat 14)))), some (.inl (.inl (.inl (0, .ofNat 0)))), some (.inl (.inl (.inr (.ofNat 1)))), some (.inl (.inl (.inl (1, .ofNat 0))))], []), ([], []), (21, [(-1, 1)]))
theorem ks249 : aseg kS krf kB [kE43, kE247, kE89] (ksp []) kE249 [kC249_0] 30000 (none) = true := by decide +kernel
theorem ks249_0 : aseg kS krf kB [kE43, kE247, kE89] (ksp []) kE249 [kC249_0] 30000 (some kC249_0) = true := by decide +kernel
theorem kok249 : aOK kS krf kB kE249 := aOK_of (kal1 kok43 (kal1 kok247 (kal1 kok89 kal0))) (kcl1 ks249_0 kcl0) ks249
/-- ColdShodModel.firstFalse(II)I -/
def kE250 : aE := (204, 46, ([(.ofNat 0, .ofNat 7)], [], 0, [some (.inr [102]), some (.inl (.inl (.inr (.ofNat 13)))), some (.inl (.inl (.inl (0, .ofNat 0)))), none, none], []), ([], none), ([(.negSucc 1, .ofNat 21)], [], some (.inl (.inl (.inl (1, .ofNat 0)))), ([], [])), ([(102, 15), (102, 16), (102, 17), (102, 18), (102, 19), (102, 22), (102, 23), (111, 0), (111, 1), (111, 2), (111, 3), (111, 4), (111, 5)], [112]))
def kC250_0 : aC := (([(.ofNat 0, .ofNat 7), (.ofNat 0, .ofNat 21)], [], 10, [some (.inr [102]), some (.inl (.inl (.inr (.ofNat 13)))), some (.inl (.inl (.inl (0, .ofNat 0)))), some (.inl (.inl (.inr (.ofNat 1)))), some (.inl (.inl (.inl (1, .ofNat 0))))], []), ([], []), (21, [(-1, 1)]))
theorem ks250 : aseg kS krf kB [kE43, kE247, kE89] (ksp []) kE250 [kC250_0] 30000 (none) = true := by decide +kernel
theorem ks250_0 : aseg kS krf kB [kE43, kE247, kE89] (ksp []) kE250 [kC250_0] 30000 (some kC250_0) = true := by decide +kernel
theorem kok250 : aOK kS krf kB kE250 := aOK_of (kal1 kok43 (kal1 kok247 (kal1 kok89 kal0))) (kcl1 ks250_0 kcl0) ks250
/-- ColdShodModel.firstFalse(II)I -/
def kE251 : aE := (204, 46, ([(.ofNat 0, .ofNat 7)], [], 0, [some (.inr [102]), some (.inl (.inl (.inr (.ofNat 12)))), some (.inl (.inl (.inl (0, .ofNat 0)))), none, none], []), ([], none), ([(.negSucc 1, .ofNat 21)], [], some (.inl (.inl (.inl (1, .ofNat 0)))), ([], [])), ([(102, 15), (102, 16), (102, 17), (102, 18), (102, 19), (102, 22), (102, 23), (111, 0), (111, 1), (111, 2), (111, 3), (111, 4), (111, 5)], [112]))
def kC251_0 : aC := (([(.ofNat 0, .ofNat 7), (.ofNat 0, .ofNat 21)], [], 10, [some (.inr [102]), some (.inl (.inl (.inr (.ofNat 12)))), some (.inl (.inl (.inl (0, .ofNat 0)))), some (.inl (.inl (.inr (.ofNat 1)))), some (.inl (.inl (.inl (1, .ofNat 0))))], []), ([], []), (21, [(-1, 1)]))
theorem ks251 : aseg kS krf kB [kE43, kE247, kE89] (ksp []) kE251 [kC251_0] 30000 (none) = true := by decide +kernel
theorem ks251_0 : aseg kS krf kB [kE43, kE247, kE89] (ksp []) kE251 [kC251_0] 30000 (some kC251_0) = true := by decide +kernel
theorem kok251 : aOK kS krf kB kE251 := aOK_of (kal1 kok43 (kal1 kok247 (kal1 kok89 kal0))) (kcl1 ks251_0 kcl0) ks251
/-- ColdShodModel.firstFalse(II)I -/
def kE252 : aE := (204, 46, ([(.ofNat 0, .ofNat 7)], [], 0, [some (.inr [102]), some (.inl (.inl (.inr (.ofNat 11)))), some (.inl (.inl (.inl (0, .ofNat 0)))), none, none], []), ([], none), ([(.negSucc 1, .ofNat 21)], [], some (.inl (.inl (.inl (1, .ofNat 0)))), ([], [])), ([(102, 15), (102, 16), (102, 17), (102, 18), (102, 19), (102, 22), (102, 23), (111, 0), (111, 1), (111, 2), (111, 3), (111, 4), (111, 5)], [112]))
def kC252_0 : aC := (([(.ofNat 0, .ofNat 7), (.ofNat 0, .ofNat 21)], [], 10, [some (.inr [102]), some (.inl (.inl (.inr (.ofNat 11)))), some (.inl (.inl (.inl (0, .ofNat 0)))), some (.inl (.inl (.inr (.ofNat 1)))), some (.inl (.inl (.inl (1, .ofNat 0))))], []), ([], []), (21, [(-1, 1)]))
theorem ks252 : aseg kS krf kB [kE43, kE247, kE89] (ksp []) kE252 [kC252_0] 30000 (none) = true := by decide +kernel
theorem ks252_0 : aseg kS krf kB [kE43, kE247, kE89] (ksp []) kE252 [kC252_0] 30000 (some kC252_0) = true := by decide +kernel
theorem kok252 : aOK kS krf kB kE252 := aOK_of (kal1 kok43 (kal1 kok247 (kal1 kok89 kal0))) (kcl1 ks252_0 kcl0) ks252
/-- ColdShodModel.firstFalse(II)I -/
def kE253 : aE := (204, 46, ([(.ofNat 0, .ofNat 7)], [], 0, [some (.inr [102]), some (.inl (.inl (.inr (.ofNat 10)))), some (.inl (.inl (.inl (0, .ofNat 0)))), none, none], []), ([], none), ([(.negSucc 1, .ofNat 21)], [], some (.inl (.inl (.inl (1, .ofNat 0)))), ([], [])), ([(102, 15), (102, 16), (102, 17), (102, 18), (102, 19), (102, 22), (102, 23), (111, 0), (111, 1), (111, 2), (111, 3), (111, 4), (111, 5)], [112]))
def kC253_0 : aC := (([(.ofNat 0, .ofNat 7), (.ofNat 0, .ofNat 21)], [], 10, [some (.inr [102]), some (.inl (.inl (.inr (.ofNat 10)))), some (.inl (.inl (.inl (0, .ofNat 0)))), some (.inl (.inl (.inr (.ofNat 1)))), some (.inl (.inl (.inl (1, .ofNat 0))))], []), ([], []), (21, [(-1, 1)]))
theorem ks253 : aseg kS krf kB [kE43, kE247, kE89] (ksp []) kE253 [kC253_0] 30000 (none) = true := by decide +kernel
theorem ks253_0 : aseg kS krf kB [kE43, kE247, kE89] (ksp []) kE253 [kC253_0] 30000 (some kC253_0) = true := by decide +kernel
theorem kok253 : aOK kS krf kB kE253 := aOK_of (kal1 kok43 (kal1 kok247 (kal1 kok89 kal0))) (kcl1 ks253_0 kcl0) ks253
