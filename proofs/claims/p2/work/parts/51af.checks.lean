/-! ENTRIES and their checks: printed by a program (wip/ai). -/
/-- ColdShodModel.rowsAre(I)I -/
def kE145 : aE := (203, 2, ([], [], 0, [some (.inr [102]), some (.inl (.inl (.inr (.ofNat 59))))], []), ([], none), ([(.negSucc 0, .negSucc 0)], [], some (.inl (.inl (.inl (0, .ofNat 0)))), ([], [])), ([], []))
theorem ks145 : aseg kS krf kB [] (ksp []) kE145 [] 30000 (none) = true := by decide +kernel
theorem kok145 : aOK kS krf kB kE145 := aOK_of kal0 kcl0 ks145
/-- ColdShodModel.rowsAre(I)I -/
def kE146 : aE := (203, 2, ([], [], 0, [some (.inr [102]), some (.inl (.inl (.inr (.ofNat 58))))], []), ([], none), ([(.negSucc 0, .negSucc 0)], [], some (.inl (.inl (.inl (0, .ofNat 0)))), ([], [])), ([], []))
theorem ks146 : aseg kS krf kB [] (ksp []) kE146 [] 30000 (none) = true := by decide +kernel
theorem kok146 : aOK kS krf kB kE146 := aOK_of kal0 kcl0 ks146
/-- ColdShodModel.rowsAre(I)I -/
def kE147 : aE := (203, 2, ([], [], 0, [some (.inr [102]), some (.inl (.inl (.inr (.ofNat 57))))], []), ([], none), ([(.negSucc 0, .negSucc 0)], [], some (.inl (.inl (.inl (0, .ofNat 0)))), ([], [])), ([], []))
theorem ks147 : aseg kS krf kB [] (ksp []) kE147 [] 30000 (none) = true := by decide +kernel
theorem kok147 : aOK kS krf kB kE147 := aOK_of kal0 kcl0 ks147
/-- ColdShodModel.rowsAre(I)I -/
def kE148 : aE := (203, 2, ([], [], 0, [some (.inr [102]), some (.inl (.inl (.inr (.ofNat 56))))], []), ([], none), ([(.negSucc 0, .negSucc 0)], [], some (.inl (.inl (.inl (0, .ofNat 0)))), ([], [])), ([], []))
theorem ks148 : aseg kS krf kB [] (ksp []) kE148 [] 30000 (none) = true := by decide +kernel
theorem kok148 : aOK kS krf kB kE148 := aOK_of kal0 kcl0 ks148
/-- ColdShodModel.rowsAre(I)I -/
def kE149 : aE := (203, 3, ([], [], 0, [some (.inr [102]), some (.inl (.inl (.inr (.ofNat 55))))], []), ([], none), ([(.negSucc 11, .ofNat 1)], [], some (.inl (.inl (.inl (0, .ofNat 0)))), ([], [])), ([], []))
theorem ks149 : aseg kS krf kB [] (ksp []) kE149 [] 30000 (none) = true := by decide +kernel
theorem kok149 : aOK kS krf kB kE149 := aOK_of kal0 kcl0 ks149
/-- ColdShodModel.rowsAre(I)I -/
def kE150 : aE := (203, 3, ([], [], 0, [some (.inr [102]), some (.inl (.inl (.inr (.ofNat 54))))], []), ([], none), ([(.negSucc 11, .ofNat 1)], [], some (.inl (.inl (.inl (0, .ofNat 0)))), ([], [])), ([], []))
theorem ks150 : aseg kS krf kB [] (ksp []) kE150 [] 30000 (none) = true := by decide +kernel
theorem kok150 : aOK kS krf kB kE150 := aOK_of kal0 kcl0 ks150
/-- ColdShodModel.rowsAre(I)I -/
def kE151 : aE := (203, 3, ([], [], 0, [some (.inr [102]), some (.inl (.inl (.inr (.ofNat 53))))], []), ([], none), ([(.negSucc 11, .ofNat 1)], [], some (.inl (.inl (.inl (0, .ofNat 0)))), ([], [])), ([], []))
theorem ks151 : aseg kS krf kB [] (ksp []) kE151 [] 30000 (none) = true := by decide +kernel
theorem kok151 : aOK kS krf kB kE151 := aOK_of kal0 kcl0 ks151
/-- ColdShodModel.rowsAre(I)I -/
def kE152 : aE := (203, 3, ([], [], 0, [some (.inr [102]), some (.inl (.inl (.inr (.ofNat 52))))], []), ([], none), ([(.negSucc 11, .ofNat 1)], [], some (.inl (.inl (.inl (0, .ofNat 0)))), ([], [])), ([], []))
theorem ks152 : aseg kS krf kB [] (ksp []) kE152 [] 30000 (none) = true := by decide +kernel
theorem kok152 : aOK kS krf kB kE152 := aOK_of kal0 kcl0 ks152
/-- ColdShodModel.rowsAre(I)I -/
def kE153 : aE := (203, 3, ([], [], 0, [some (.inr [102]), some (.inl (.inl (.inr (.ofNat 51))))], []), ([], none), ([(.negSucc 11, .ofNat 1)], [], some (.inl (.inl (.inl (0, .ofNat 0)))), ([], [])), ([], []))
theorem ks153 : aseg kS krf kB [] (ksp []) kE153 [] 30000 (none) = true := by decide +kernel
theorem kok153 : aOK kS krf kB kE153 := aOK_of kal0 kcl0 ks153
/-- ColdShodModel.rowsAre(I)I -/
def kE154 : aE := (203, 3, ([], [], 0, [some (.inr [102]), some (.inl (.inl (.inr (.ofNat 50))))], []), ([], none), ([(.negSucc 11, .ofNat 1)], [], some (.inl (.inl (.inl (0, .ofNat 0)))), ([], [])), ([], []))
theorem ks154 : aseg kS krf kB [] (ksp []) kE154 [] 30000 (none) = true := by decide +kernel
theorem kok154 : aOK kS krf kB kE154 := aOK_of kal0 kcl0 ks154
/-- ColdShodModel.rowsAre(I)I -/
def kE155 : aE := (203, 2, ([], [], 0, [some (.inr [102]), some (.inl (.inl (.inr (.ofNat 49))))], []), ([], none), ([(.negSucc 0, .negSucc 0)], [], some (.inl (.inl (.inl (0, .ofNat 0)))), ([], [])), ([], []))
theorem ks155 : aseg kS krf kB [] (ksp []) kE155 [] 30000 (none) = true := by decide +kernel
theorem kok155 : aOK kS krf kB kE155 := aOK_of kal0 kcl0 ks155
/-- ColdShodModel.rowsAre(I)I -/
def kE156 : aE := (203, 2, ([], [], 0, [some (.inr [102]), some (.inl (.inl (.inr (.ofNat 48))))], []), ([], none), ([(.negSucc 0, .negSucc 0)], [], some (.inl (.inl (.inl (0, .ofNat 0)))), ([], [])), ([], []))
theorem ks156 : aseg kS krf kB [] (ksp []) kE156 [] 30000 (none) = true := by decide +kernel
theorem kok156 : aOK kS krf kB kE156 := aOK_of kal0 kcl0 ks156
/-- ColdShodModel.rowsAre(I)I -/
def kE157 : aE := (203, 2, ([], [], 0, [some (.inr [102]), some (.inl (.inl (.inr (.ofNat 47))))], []), ([], none), ([(.negSucc 0, .negSucc 0)], [], some (.inl (.inl (.inl (0, .ofNat 0)))), ([], [])), ([], []))
theorem ks157 : aseg kS krf kB [] (ksp []) kE157 [] 30000 (none) = true := by decide +kernel
theorem kok157 : aOK kS krf kB kE157 := aOK_of kal0 kcl0 ks157
/-- ColdShodModel.rowsAre(I)I -/
def kE158 : aE := (203, 2, ([], [], 0, [some (.inr [102]), some (.inl (.inl (.inr (.ofNat 46))))], []), ([], none), ([(.negSucc 0, .negSucc 0)], [], some (.inl (.inl (.inl (0, .ofNat 0)))), ([], [])), ([], []))
theorem ks158 : aseg kS krf kB [] (ksp []) kE158 [] 30000 (none) = true := by decide +kernel
theorem kok158 : aOK kS krf kB kE158 := aOK_of kal0 kcl0 ks158
/-- ColdShodModel.rowsAre(I)I -/
def kE159 : aE := (203, 3, ([], [], 0, [some (.inr [102]), some (.inl (.inl (.inr (.ofNat 45))))], []), ([], none), ([(.negSucc 11, .ofNat 1)], [], some (.inl (.inl (.inl (0, .ofNat 0)))), ([], [])), ([], []))
theorem ks159 : aseg kS krf kB [] (ksp []) kE159 [] 30000 (none) = true := by decide +kernel
theorem kok159 : aOK kS krf kB kE159 := aOK_of kal0 kcl0 ks159
/-- ColdShodModel.rowsAre(I)I -/
def kE160 : aE := (203, 3, ([], [], 0, [some (.inr [102]), some (.inl (.inl (.inr (.ofNat 44))))], []), ([], none), ([(.negSucc 11, .ofNat 1)], [], some (.inl (.inl (.inl (0, .ofNat 0)))), ([], [])), ([], []))
theorem ks160 : aseg kS krf kB [] (ksp []) kE160 [] 30000 (none) = true := by decide +kernel
theorem kok160 : aOK kS krf kB kE160 := aOK_of kal0 kcl0 ks160
/-- ColdShodModel.rowsAre(I)I -/
def kE161 : aE := (203, 3, ([], [], 0, [some (.inr [102]), some (.inl (.inl (.inr (.ofNat 43))))], []), ([], none), ([(.negSucc 11, .ofNat 1)], [], some (.inl (.inl (.inl (0, .ofNat 0)))), ([], [])), ([], []))
theorem ks161 : aseg kS krf kB [] (ksp []) kE161 [] 30000 (none) = true := by decide +kernel
theorem kok161 : aOK kS krf kB kE161 := aOK_of kal0 kcl0 ks161
/-- ColdShodModel.rowsAre(I)I -/
def kE162 : aE := (203, 3, ([], [], 0, [some (.inr [102]), some (.inl (.inl (.inr (.ofNat 42))))], []), ([], none), ([(.negSucc 11, .ofNat 1)], [], some (.inl (.inl (.inl (0, .ofNat 0)))), ([], [])), ([], []))
theorem ks162 : aseg kS krf kB [] (ksp []) kE162 [] 30000 (none) = true := by decide +kernel
theorem kok162 : aOK kS krf kB kE162 := aOK_of kal0 kcl0 ks162
/-- ColdShodModel.rowsAre(I)I -/
def kE163 : aE := (203, 3, ([], [], 0, [some (.inr [102]), some (.inl (.inl (.inr (.ofNat 41))))], []), ([], none), ([(.negSucc 11, .ofNat 1)], [], some (.inl (.inl (.inl (0, .ofNat 0)))), ([], [])), ([], []))
theorem ks163 : aseg kS krf kB [] (ksp []) kE163 [] 30000 (none) = true := by decide +kernel
theorem kok163 : aOK kS krf kB kE163 := aOK_of kal0 kcl0 ks163
/-- ColdShodModel.rowsAre(I)I -/
def kE164 : aE := (203, 3, ([], [], 0, [some (.inr [102]), some (.inl (.inl (.inr (.ofNat 40))))], []), ([], none), ([(.negSucc 11, .ofNat 1)], [], some (.inl (.inl (.inl (0, .ofNat 0)))), ([], [])), ([], []))
theorem ks164 : aseg kS krf kB [] (ksp []) kE164 [] 30000 (none) = true := by decide +kernel
theorem kok164 : aOK kS krf kB kE164 := aOK_of kal0 kcl0 ks164
/-- ColdShodModel.rowsAre(I)I -/
def kE165 : aE := (203, 2, ([], [], 0, [some (.inr [102]), some (.inl (.inl (.inr (.ofNat 39))))], []), ([], none), ([(.negSucc 0, .negSucc 0)], [], some (.inl (.inl (.inl (0, .ofNat 0)))), ([], [])), ([], []))
theorem ks165 : aseg kS krf kB [] (ksp []) kE165 [] 30000 (none) = true := by decide +kernel
theorem kok165 : aOK kS krf kB kE165 := aOK_of kal0 kcl0 ks165
/-- ColdShodModel.rowsAre(I)I -/
def kE166 : aE := (203, 2, ([], [], 0, [some (.inr [102]), some (.inl (.inl (.inr (.ofNat 38))))], []), ([], none), ([(.negSucc 0, .negSucc 0)], [], some (.inl (.inl (.inl (0, .ofNat 0)))), ([], [])), ([], []))
theorem ks166 : aseg kS krf kB [] (ksp []) kE166 [] 30000 (none) = true := by decide +kernel
theorem kok166 : aOK kS krf kB kE166 := aOK_of kal0 kcl0 ks166
/-- ColdShodModel.rowsAre(I)I -/
def kE167 : aE := (203, 2, ([], [], 0, [some (.inr [102]), some (.inl (.inl (.inr (.ofNat 37))))], []), ([], none), ([(.negSucc 0, .negSucc 0)], [], some (.inl (.inl (.inl (0, .ofNat 0)))), ([], [])), ([], []))
theorem ks167 : aseg kS krf kB [] (ksp []) kE167 [] 30000 (none) = true := by decide +kernel
theorem kok167 : aOK kS krf kB kE167 := aOK_of kal0 kcl0 ks167
/-- ColdShodModel.rowsAre(I)I -/
def kE168 : aE := (203, 2, ([], [], 0, [some (.inr [102]), some (.inl (.inl (.inr (.ofNat 36))))], []), ([], none), ([(.negSucc 0, .negSucc 0)], [], some (.inl (.inl (.inl (0, .ofNat 0)))), ([], [])), ([], []))
theorem ks168 : aseg kS krf kB [] (ksp []) kE168 [] 30000 (none) = true := by decide +kernel
theorem kok168 : aOK kS krf kB kE168 := aOK_of kal0 kcl0 ks168
/-- ColdShodModel.rowsAre(I)I -/
def kE169 : aE := (203, 3, ([], [], 0, [some (.inr [102]), some (.inl (.inl (.inr (.ofNat 35))))], []), ([], none), ([(.negSucc 11, .ofNat 1)], [], some (.inl (.inl (.inl (0, .ofNat 0)))), ([], [])), ([], []))
theorem ks169 : aseg kS krf kB [] (ksp []) kE169 [] 30000 (none) = true := by decide +kernel
theorem kok169 : aOK kS krf kB kE169 := aOK_of kal0 kcl0 ks169
/-- ColdShodModel.rowsAre(I)I -/
def kE170 : aE := (203, 3, ([], [], 0, [some (.inr [102]), some (.inl (.inl (.inr (.ofNat 34))))], []), ([], none), ([(.negSucc 11, .ofNat 1)], [], some (.inl (.inl (.inl (0, .ofNat 0)))), ([], [])), ([], []))
theorem ks170 : aseg kS krf kB [] (ksp []) kE170 [] 30000 (none) = true := by decide +kernel
theorem kok170 : aOK kS krf kB kE170 := aOK_of kal0 kcl0 ks170
/-- ColdShodModel.rowsAre(I)I -/
def kE171 : aE := (203, 3, ([], [], 0, [some (.inr [102]), some (.inl (.inl (.inr (.ofNat 33))))], []), ([], none), ([(.negSucc 11, .ofNat 1)], [], some (.inl (.inl (.inl (0, .ofNat 0)))), ([], [])), ([], []))
theorem ks171 : aseg kS krf kB [] (ksp []) kE171 [] 30000 (none) = true := by decide +kernel
theorem kok171 : aOK kS krf kB kE171 := aOK_of kal0 kcl0 ks171
/-- ColdShodModel.rowsAre(I)I -/
def kE172 : aE := (203, 3, ([], [], 0, [some (.inr [102]), some (.inl (.inl (.inr (.ofNat 32))))], []), ([], none), ([(.negSucc 11, .ofNat 1)], [], some (.inl (.inl (.inl (0, .ofNat 0)))), ([], [])), ([], []))
theorem ks172 : aseg kS krf kB [] (ksp []) kE172 [] 30000 (none) = true := by decide +kernel
theorem kok172 : aOK kS krf kB kE172 := aOK_of kal0 kcl0 ks172
/-- ColdShodModel.rowsAre(I)I -/
def kE173 : aE := (203, 3, ([], [], 0, [some (.inr [102]), some (.inl (.inl (.inr (.ofNat 31))))], []), ([], none), ([(.negSucc 11, .ofNat 1)], [], some (.inl (.inl (.inl (0, .ofNat 0)))), ([], [])), ([], []))
theorem ks173 : aseg kS krf kB [] (ksp []) kE173 [] 30000 (none) = true := by decide +kernel
theorem kok173 : aOK kS krf kB kE173 := aOK_of kal0 kcl0 ks173
/-- ColdShodModel.rowsAre(I)I -/
def kE174 : aE := (203, 3, ([], [], 0, [some (.inr [102]), some (.inl (.inl (.inr (.ofNat 30))))], []), ([], none), ([(.negSucc 11, .ofNat 1)], [], some (.inl (.inl (.inl (0, .ofNat 0)))), ([], [])), ([], []))
theorem ks174 : aseg kS krf kB [] (ksp []) kE174 [] 30000 (none) = true := by decide +kernel
theorem kok174 : aOK kS krf kB kE174 := aOK_of kal0 kcl0 ks174
/-- ColdShodModel.rowsAre(I)I -/
def kE175 : aE := (203, 2, ([], [], 0, [some (.inr [102]), some (.inl (.inl (.inr (.ofNat 29))))], []), ([], none), ([(.negSucc 0, .negSucc 0)], [], some (.inl (.inl (.inl (0, .ofNat 0)))), ([], [])), ([], []))
theorem ks175 : aseg kS krf kB [] (ksp []) kE175 [] 30000 (none) = true := by decide +kernel
theorem kok175 : aOK kS krf kB kE175 := aOK_of kal0 kcl0 ks175
/-- ColdShodModel.rowsAre(I)I -/
def kE176 : aE := (203, 2, ([], [], 0, [some (.inr [102]), some (.inl (.inl (.inr (.ofNat 28))))], []), ([], none), ([(.negSucc 0, .negSucc 0)], [], some (.inl (.inl (.inl (0, .ofNat 0)))), ([], [])), ([], []))
theorem ks176 : aseg kS krf kB [] (ksp []) kE176 [] 30000 (none) = true := by decide +kernel
theorem kok176 : aOK kS krf kB kE176 := aOK_of kal0 kcl0 ks176
/-- ColdShodModel.rowsAre(I)I -/
def kE177 : aE := (203, 2, ([], [], 0, [some (.inr [102]), some (.inl (.inl (.inr (.ofNat 27))))], []), ([], none), ([(.negSucc 0, .negSucc 0)], [], some (.inl (.inl (.inl (0, .ofNat 0)))), ([], [])), ([], []))
theorem ks177 : aseg kS krf kB [] (ksp []) kE177 [] 30000 (none) = true := by decide +kernel
theorem kok177 : aOK kS krf kB kE177 := aOK_of kal0 kcl0 ks177
/-- ColdShodModel.rowsAre(I)I -/
def kE178 : aE := (203, 2, ([], [], 0, [some (.inr [102]), some (.inl (.inl (.inr (.ofNat 26))))], []), ([], none), ([(.negSucc 0, .negSucc 0)], [], some (.inl (.inl (.inl (0, .ofNat 0)))), ([], [])), ([], []))
theorem ks178 : aseg kS krf kB [] (ksp []) kE178 [] 30000 (none) = true := by decide +kernel
theorem kok178 : aOK kS krf kB kE178 := aOK_of kal0 kcl0 ks178
/-- ColdShodModel.rowsAre(I)I -/
def kE179 : aE := (203, 3, ([], [], 0, [some (.inr [102]), some (.inl (.inl (.inr (.ofNat 25))))], []), ([], none), ([(.negSucc 11, .ofNat 1)], [], some (.inl (.inl (.inl (0, .ofNat 0)))), ([], [])), ([], []))
theorem ks179 : aseg kS krf kB [] (ksp []) kE179 [] 30000 (none) = true := by decide +kernel
theorem kok179 : aOK kS krf kB kE179 := aOK_of kal0 kcl0 ks179
/-- ColdShodModel.rowsAre(I)I -/
def kE180 : aE := (203, 3, ([], [], 0, [some (.inr [102]), some (.inl (.inl (.inr (.ofNat 24))))], []), ([], none), ([(.negSucc 11, .ofNat 1)], [], some (.inl (.inl (.inl (0, .ofNat 0)))), ([], [])), ([], []))
theorem ks180 : aseg kS krf kB [] (ksp []) kE180 [] 30000 (none) = true := by decide +kernel
theorem kok180 : aOK kS krf kB kE180 := aOK_of kal0 kcl0 ks180
/-- ColdShodModel.rowsAre(I)I -/
def kE181 : aE := (203, 3, ([], [], 0, [some (.inr [102]), some (.inl (.inl (.inr (.ofNat 23))))], []), ([], none), ([(.negSucc 11, .ofNat 1)], [], some (.inl (.inl (.inl (0, .ofNat 0)))), ([], [])), ([], []))
theorem ks181 : aseg kS krf kB [] (ksp []) kE181 [] 30000 (none) = true := by decide +kernel
theorem kok181 : aOK kS krf kB kE181 := aOK_of kal0 kcl0 ks181
/-- ColdShodModel.rowsAre(I)I -/
def kE182 : aE := (203, 3, ([], [], 0, [some (.inr [102]), some (.inl (.inl (.inr (.ofNat 22))))], []), ([], none), ([(.negSucc 11, .ofNat 1)], [], some (.inl (.inl (.inl (0, .ofNat 0)))), ([], [])), ([], []))
theorem ks182 : aseg kS krf kB [] (ksp []) kE182 [] 30000 (none) = true := by decide +kernel
theorem kok182 : aOK kS krf kB kE182 := aOK_of kal0 kcl0 ks182
/-- ColdShodModel.rowsAre(I)I -/
def kE183 : aE := (203, 3, ([], [], 0, [some (.inr [102]), some (.inl (.inl (.inr (.ofNat 21))))], []), ([], none), ([(.negSucc 11, .ofNat 1)], [], some (.inl (.inl (.inl (0, .ofNat 0)))), ([], [])), ([], []))
theorem ks183 : aseg kS krf kB [] (ksp []) kE183 [] 30000 (none) = true := by decide +kernel
theorem kok183 : aOK kS krf kB kE183 := aOK_of kal0 kcl0 ks183
/-- ColdShodModel.rowsAre(I)I -/
def kE184 : aE := (203, 3, ([], [], 0, [some (.inr [102]), some (.inl (.inl (.inr (.ofNat 20))))], []), ([], none), ([(.negSucc 11, .ofNat 1)], [], some (.inl (.inl (.inl (0, .ofNat 0)))), ([], [])), ([], []))
theorem ks184 : aseg kS krf kB [] (ksp []) kE184 [] 30000 (none) = true := by decide +kernel
theorem kok184 : aOK kS krf kB kE184 := aOK_of kal0 kcl0 ks184
/-- ColdShodModel.rowsAre(I)I -/
def kE185 : aE := (203, 2, ([], [], 0, [some (.inr [102]), some (.inl (.inl (.inr (.ofNat 19))))], []), ([], none), ([(.negSucc 0, .negSucc 0)], [], some (.inl (.inl (.inl (0, .ofNat 0)))), ([], [])), ([], []))
theorem ks185 : aseg kS krf kB [] (ksp []) kE185 [] 30000 (none) = true := by decide +kernel
theorem kok185 : aOK kS krf kB kE185 := aOK_of kal0 kcl0 ks185
/-- ColdShodModel.rowsAre(I)I -/
def kE186 : aE := (203, 2, ([], [], 0, [some (.inr [102]), some (.inl (.inl (.inr (.ofNat 18))))], []), ([], none), ([(.negSucc 0, .negSucc 0)], [], some (.inl (.inl (.inl (0, .ofNat 0)))), ([], [])), ([], []))
theorem ks186 : aseg kS krf kB [] (ksp []) kE186 [] 30000 (none) = true := by decide +kernel
theorem kok186 : aOK kS krf kB kE186 := aOK_of kal0 kcl0 ks186
/-- ColdShodModel.rowsAre(I)I -/
def kE187 : aE := (203, 2, ([], [], 0, [some (.inr [102]), some (.inl (.inl (.inr (.ofNat 17))))], []), ([], none), ([(.negSucc 0, .negSucc 0)], [], some (.inl (.inl (.inl (0, .ofNat 0)))), ([], [])), ([], []))
theorem ks187 : aseg kS krf kB [] (ksp []) kE187 [] 30000 (none) = true := by decide +kernel
theorem kok187 : aOK kS krf kB kE187 := aOK_of kal0 kcl0 ks187
/-- ColdShodModel.rowsAre(I)I -/
def kE188 : aE := (203, 2, ([], [], 0, [some (.inr [102]), some (.inl (.inl (.inr (.ofNat 16))))], []), ([], none), ([(.negSucc 0, .negSucc 0)], [], some (.inl (.inl (.inl (0, .ofNat 0)))), ([], [])), ([], []))
theorem ks188 : aseg kS krf kB [] (ksp []) kE188 [] 30000 (none) = true := by decide +kernel
theorem kok188 : aOK kS krf kB kE188 := aOK_of kal0 kcl0 ks188
/-- ColdShodModel.rowsAre(I)I -/
def kE189 : aE := (203, 3, ([], [], 0, [some (.inr [102]), some (.inl (.inl (.inr (.ofNat 15))))], []), ([], none), ([(.negSucc 11, .ofNat 1)], [], some (.inl (.inl (.inl (0, .ofNat 0)))), ([], [])), ([], []))
theorem ks189 : aseg kS krf kB [] (ksp []) kE189 [] 30000 (none) = true := by decide +kernel
theorem kok189 : aOK kS krf kB kE189 := aOK_of kal0 kcl0 ks189
/-- ColdShodModel.rowsAre(I)I -/
def kE190 : aE := (203, 3, ([], [], 0, [some (.inr [102]), some (.inl (.inl (.inr (.ofNat 14))))], []), ([], none), ([(.negSucc 11, .ofNat 1)], [], some (.inl (.inl (.inl (0, .ofNat 0)))), ([], [])), ([], []))
theorem ks190 : aseg kS krf kB [] (ksp []) kE190 [] 30000 (none) = true := by decide +kernel
theorem kok190 : aOK kS krf kB kE190 := aOK_of kal0 kcl0 ks190
/-- ColdShodModel.rowsAre(I)I -/
def kE191 : aE := (203, 3, ([], [], 0, [some (.inr [102]), some (.inl (.inl (.inr (.ofNat 13))))], []), ([], none), ([(.negSucc 11, .ofNat 1)], [], some (.inl (.inl (.inl (0, .ofNat 0)))), ([], [])), ([], []))
theorem ks191 : aseg kS krf kB [] (ksp []) kE191 [] 30000 (none) = true := by decide +kernel
theorem kok191 : aOK kS krf kB kE191 := aOK_of kal0 kcl0 ks191
/-- ColdShodModel.rowsAre(I)I -/
def kE192 : aE := (203, 3, ([], [], 0, [some (.inr [102]), some (.inl (.inl (.inr (.ofNat 12))))], []), ([], none), ([(.negSucc 11, .ofNat 1)], [], some (.inl (.inl (.inl (0, .ofNat 0)))), ([], [])), ([], []))
theorem ks192 : aseg kS krf kB [] (ksp []) kE192 [] 30000 (none) = true := by decide +kernel
theorem kok192 : aOK kS krf kB kE192 := aOK_of kal0 kcl0 ks192
/-- ColdShodModel.rowsAre(I)I -/
def kE193 : aE := (203, 3, ([], [], 0, [some (.inr [102]), some (.inl (.inl (.inr (.ofNat 11))))], []), ([], none), ([(.negSucc 11, .ofNat 1)], [], some (.inl (.inl (.inl (0, .ofNat 0)))), ([], [])), ([], []))
theorem ks193 : aseg kS krf kB [] (ksp []) kE193 [] 30000 (none) = true := by decide +kernel
theorem kok193 : aOK kS krf kB kE193 := aOK_of kal0 kcl0 ks193
/-- ColdShodModel.rowsAre(I)I -/
def kE194 : aE := (203, 3, ([], [], 0, [some (.inr [102]), some (.inl (.inl (.inr (.ofNat 10))))], []), ([], none), ([(.negSucc 11, .ofNat 1)], [], some (.inl (.inl (.inl (0, .ofNat 0)))), ([], [])), ([], []))
theorem ks194 : aseg kS krf kB [] (ksp []) kE194 [] 30000 (none) = true := by decide +kernel
theorem kok194 : aOK kS krf kB kE194 := aOK_of kal0 kcl0 ks194
/-- ColdShodModel.rowsAre(I)I -/
def kE195 : aE := (203, 2, ([], [], 0, [some (.inr [102]), some (.inl (.inl (.inr (.ofNat 9))))], []), ([], none), ([(.negSucc 0, .negSucc 0)], [], some (.inl (.inl (.inl (0, .ofNat 0)))), ([], [])), ([], []))
theorem ks195 : aseg kS krf kB [] (ksp []) kE195 [] 30000 (none) = true := by decide +kernel
theorem kok195 : aOK kS krf kB kE195 := aOK_of kal0 kcl0 ks195
/-- ColdShodModel.rowsAre(I)I -/
def kE196 : aE := (203, 2, ([], [], 0, [some (.inr [102]), some (.inl (.inl (.inr (.ofNat 8))))], []), ([], none), ([(.negSucc 0, .negSucc 0)], [], some (.inl (.inl (.inl (0, .ofNat 0)))), ([], [])), ([], []))
theorem ks196 : aseg kS krf kB [] (ksp []) kE196 [] 30000 (none) = true := by decide +kernel
theorem kok196 : aOK kS krf kB kE196 := aOK_of kal0 kcl0 ks196
/-- ColdShodModel.rowsAre(I)I -/
def kE197 : aE := (203, 2, ([], [], 0, [some (.inr [102]), some (.inl (.inl (.inr (.ofNat 7))))], []), ([], none), ([(.negSucc 0, .negSucc 0)], [], some (.inl (.inl (.inl (0, .ofNat 0)))), ([], [])), ([], []))
theorem ks197 : aseg kS krf kB [] (ksp []) kE197 [] 30000 (none) = true := by decide +kernel
theorem kok197 : aOK kS krf kB kE197 := aOK_of kal0 kcl0 ks197
/-- ColdShodModel.rowsAre(I)I -/
def kE198 : aE := (203, 2, ([], [], 0, [some (.inr [102]), some (.inl (.inl (.inr (.ofNat 6))))], []), ([], none), ([(.negSucc 0, .negSucc 0)], [], some (.inl (.inl (.inl (0, .ofNat 0)))), ([], [])), ([], []))
theorem ks198 : aseg kS krf kB [] (ksp []) kE198 [] 30000 (none) = true := by decide +kernel
theorem kok198 : aOK kS krf kB kE198 := aOK_of kal0 kcl0 ks198
/-- ColdShodModel.rowsAre(I)I -/
def kE199 : aE := (203, 3, ([], [], 0, [some (.inr [102]), some (.inl (.inl (.inr (.ofNat 5))))], []), ([], none), ([(.negSucc 11, .ofNat 1)], [], some (.inl (.inl (.inl (0, .ofNat 0)))), ([], [])), ([], []))
theorem ks199 : aseg kS krf kB [] (ksp []) kE199 [] 30000 (none) = true := by decide +kernel
theorem kok199 : aOK kS krf kB kE199 := aOK_of kal0 kcl0 ks199
/-- ColdShodModel.rowsAre(I)I -/
def kE200 : aE := (203, 3, ([], [], 0, [some (.inr [102]), some (.inl (.inl (.inr (.ofNat 4))))], []), ([], none), ([(.negSucc 11, .ofNat 1)], [], some (.inl (.inl (.inl (0, .ofNat 0)))), ([], [])), ([], []))
theorem ks200 : aseg kS krf kB [] (ksp []) kE200 [] 30000 (none) = true := by decide +kernel
theorem kok200 : aOK kS krf kB kE200 := aOK_of kal0 kcl0 ks200
/-- ColdShodModel.rowsAre(I)I -/
def kE201 : aE := (203, 3, ([], [], 0, [some (.inr [102]), some (.inl (.inl (.inr (.ofNat 3))))], []), ([], none), ([(.negSucc 11, .ofNat 1)], [], some (.inl (.inl (.inl (0, .ofNat 0)))), ([], [])), ([], []))
theorem ks201 : aseg kS krf kB [] (ksp []) kE201 [] 30000 (none) = true := by decide +kernel
theorem kok201 : aOK kS krf kB kE201 := aOK_of kal0 kcl0 ks201
/-- ColdShodModel.rowsAre(I)I -/
def kE202 : aE := (203, 3, ([], [], 0, [some (.inr [102]), some (.inl (.inl (.inr (.ofNat 2))))], []), ([], none), ([(.negSucc 11, .ofNat 1)], [], some (.inl (.inl (.inl (0, .ofNat 0)))), ([], [])), ([], []))
theorem ks202 : aseg kS krf kB [] (ksp []) kE202 [] 30000 (none) = true := by decide +kernel
theorem kok202 : aOK kS krf kB kE202 := aOK_of kal0 kcl0 ks202
/-- ColdShodModel.rowsAre(I)I -/
def kE203 : aE := (203, 3, ([], [], 0, [some (.inr [102]), some (.inl (.inl (.inr (.ofNat 1))))], []), ([], none), ([(.negSucc 11, .ofNat 1)], [], some (.inl (.inl (.inl (0, .ofNat 0)))), ([], [])), ([], []))
theorem ks203 : aseg kS krf kB [] (ksp []) kE203 [] 30000 (none) = true := by decide +kernel
theorem kok203 : aOK kS krf kB kE203 := aOK_of kal0 kcl0 ks203
/-- ColdShodModel.rowsAre(I)I -/
def kE204 : aE := (203, 3, ([], [], 0, [some (.inr [102]), some (.inl (.inl (.inr (.ofNat 0))))], []), ([], none), ([(.negSucc 11, .ofNat 1)], [], some (.inl (.inl (.inl (0, .ofNat 0)))), ([], [])), ([], []))
theorem ks204 : aseg kS krf kB [] (ksp []) kE204 [] 30000 (none) = true := by decide +kernel
theorem kok204 : aOK kS krf kB kE204 := aOK_of kal0 kcl0 ks204
/-- ColdShodModel.rowsAre(I)I -/
def kE205 : aE := (203, 2, ([(.ofNat 60, .ofNat 2147483647)], [], 0, [some (.inr [102]), some (.inl (.inl (.inl (0, .ofNat 0))))], []), ([], none), ([(.negSucc 0, .negSucc 0)], [], some (.inl (.inl (.inl (1, .ofNat 0)))), ([], [])), ([], []))
theorem ks205 : aseg kS krf kB [] (ksp []) kE205 [] 30000 (none) = true := by decide +kernel
theorem kok205 : aOK kS krf kB kE205 := aOK_of kal0 kcl0 ks205
/-- ColdShodModel.rowsAre(I)I -/
def kE206 : aE := (203, 0, ([(.negSucc 2147483647, .negSucc 0)], [], 0, [some (.inr [102]), some (.inl (.inl (.inl (0, .ofNat 0))))], []), ([], none), ([(.negSucc 0, .negSucc 0)], [], some (.inl (.inl (.inl (1, .ofNat 0)))), ([], [])), ([], []))
theorem ks206 : aseg kS krf kB [] (ksp []) kE206 [] 30000 (none) = true := by decide +kernel
theorem kok206 : aOK kS krf kB kE206 := aOK_of kal0 kcl0 ks206
/-- ColdShodModel.roadMany(I)I -/
def kE207 : aE := (187, 2, ([], [], 0, [some (.inr [102]), some (.inl (.inl (.inr (.ofNat 5)))), none], []), ([], none), ([(.ofNat 0, .ofNat 20)], [], some (.inl (.inl (.inl (0, .ofNat 0)))), ([], [(.ofNat 300, .inl (0, .ofNat 0))])), ([], []))
def kC207_0 : aC := (([(.ofNat 0, .ofNat 20)], [], 2, [some (.inr [102]), some (.inl (.inl (.inr (.ofNat 5)))), some (.inl (.inl (.inl (0, .ofNat 0))))], []), ([], [(.ofNat 300, .inl (0, .ofNat 0))]), (20, [(-1, 0)]))
theorem ks207 : aseg kS krf kB [] (ksp []) kE207 [kC207_0] 30000 (none) = true := by decide +kernel
theorem ks207_0 : aseg kS krf kB [] (ksp []) kE207 [kC207_0] 30000 (some kC207_0) = true := by decide +kernel
theorem kok207 : aOK kS krf kB kE207 := aOK_of kal0 (kcl1 ks207_0 kcl0) ks207
/-- ColdShodModel.firstFalse(II)I -/
def kE208 : aE := (204, 46, ([(.ofNat 0, .ofNat 7)], [], 0, [some (.inr [102]), some (.inl (.inl (.inr (.ofNat 55)))), some (.inl (.inl (.inl (0, .ofNat 0)))), none, none], []), ([], none), ([(.negSucc 1, .ofNat 21)], [], some (.inl (.inl (.inl (1, .ofNat 0)))), ([], [])), ([(102, 15), (102, 16), (102, 17), (102, 18), (102, 19), (102, 22), (102, 23), (111, 0), (111, 1), (111, 2), (111, 3), (111, 4), (111, 5)], [112]))
def kC208_0 : aC := (([(.ofNat 0, .ofNat 7), (.ofNat 0, .ofNat 21)], [], 10, [some (.inr [102]), some (.inl (.inl (.inr (.ofNat 55)))), some (.inl (.inl (.inl (0, .ofNat 0)))), some (.inl (.inl (.inr (.ofNat 1)))), some (.inl (.inl (.inl (1, .ofNat 0))))], []), ([], []), (21, [(-1, 1)]))
theorem ks208 : aseg kS krf kB [kE42, kE207, kE86] (ksp []) kE208 [kC208_0] 30000 (none) = true := by decide +kernel
theorem ks208_0 : aseg kS krf kB [kE42, kE207, kE86] (ksp []) kE208 [kC208_0] 30000 (some kC208_0) = true := by decide +kernel
theorem kok208 : aOK kS krf kB kE208 := aOK_of (kal1 kok42 (kal1 kok207 (kal1 kok86 kal0))) (kcl1 ks208_0 kcl0) ks208
/-- ColdShodModel.firstFalse(II)I -/
def kE209 : aE := (204, 46, ([(.ofNat 0, .ofNat 7)], [], 0, [some (.inr [102]), some (.inl (.inl (.inr (.ofNat 54)))), some (.inl (.inl (.inl (0, .ofNat 0)))), none, none], []), ([], none), ([(.negSucc 1, .ofNat 21)], [], some (.inl (.inl (.inl (1, .ofNat 0)))), ([], [])), ([(102, 15), (102, 16), (102, 17), (102, 18), (102, 19), (102, 22), (102, 23), (111, 0), (111, 1), (111, 2), (111, 3), (111, 4), (111, 5)], [112]))
def kC209_0 : aC := (([(.ofNat 0, .ofNat 7), (.ofNat 0, .ofNat 21)], [], 10, [some (.inr [102]), some (.inl (.inl (.inr (.ofNat 54)))), some (.inl (.inl (.inl (0, .ofNat 0)))), some (.inl (.inl (.inr (.ofNat 1)))), some (.inl (.inl (.inl (1, .ofNat 0))))], []), ([], []), (21, [(-1, 1)]))
theorem ks209 : aseg kS krf kB [kE42, kE207, kE86] (ksp []) kE209 [kC209_0] 30000 (none) = true := by decide +kernel
theorem ks209_0 : aseg kS krf kB [kE42, kE207, kE86] (ksp []) kE209 [kC209_0] 30000 (some kC209_0) = true := by decide +kernel
theorem kok209 : aOK kS krf kB kE209 := aOK_of (kal1 kok42 (kal1 kok207 (kal1 kok86 kal0))) (kcl1 ks209_0 kcl0) ks209
/-- ColdShodModel.firstFalse(II)I -/
def kE210 : aE := (204, 46, ([(.ofNat 0, .ofNat 7)], [], 0, [some (.inr [102]), some (.inl (.inl (.inr (.ofNat 53)))), some (.inl (.inl (.inl (0, .ofNat 0)))), none, none], []), ([], none), ([(.negSucc 1, .ofNat 21)], [], some (.inl (.inl (.inl (1, .ofNat 0)))), ([], [])), ([(102, 15), (102, 16), (102, 17), (102, 18), (102, 19), (102, 22), (102, 23), (111, 0), (111, 1), (111, 2), (111, 3), (111, 4), (111, 5)], [112]))
def kC210_0 : aC := (([(.ofNat 0, .ofNat 7), (.ofNat 0, .ofNat 21)], [], 10, [some (.inr [102]), some (.inl (.inl (.inr (.ofNat 53)))), some (.inl (.inl (.inl (0, .ofNat 0)))), some (.inl (.inl (.inr (.ofNat 1)))), some (.inl (.inl (.inl (1, .ofNat 0))))], []), ([], []), (21, [(-1, 1)]))
theorem ks210 : aseg kS krf kB [kE42, kE207, kE86] (ksp []) kE210 [kC210_0] 30000 (none) = true := by decide +kernel
theorem ks210_0 : aseg kS krf kB [kE42, kE207, kE86] (ksp []) kE210 [kC210_0] 30000 (some kC210_0) = true := by decide +kernel
theorem kok210 : aOK kS krf kB kE210 := aOK_of (kal1 kok42 (kal1 kok207 (kal1 kok86 kal0))) (kcl1 ks210_0 kcl0) ks210
/-- ColdShodModel.firstFalse(II)I -/
def kE211 : aE := (204, 46, ([(.ofNat 0, .ofNat 7)], [], 0, [some (.inr [102]), some (.inl (.inl (.inr (.ofNat 52)))), some (.inl (.inl (.inl (0, .ofNat 0)))), none, none], []), ([], none), ([(.negSucc 1, .ofNat 21)], [], some (.inl (.inl (.inl (1, .ofNat 0)))), ([], [])), ([(102, 15), (102, 16), (102, 17), (102, 18), (102, 19), (102, 22), (102, 23), (111, 0), (111, 1), (111, 2), (111, 3), (111, 4), (111, 5)], [112]))
def kC211_0 : aC := (([(.ofNat 0, .ofNat 7), (.ofNat 0, .ofNat 21)], [], 10, [some (.inr [102]), some (.inl (.inl (.inr (.ofNat 52)))), some (.inl (.inl (.inl (0, .ofNat 0)))), some (.inl (.inl (.inr (.ofNat 1)))), some (.inl (.inl (.inl (1, .ofNat 0))))], []), ([], []), (21, [(-1, 1)]))
theorem ks211 : aseg kS krf kB [kE42, kE207, kE86] (ksp []) kE211 [kC211_0] 30000 (none) = true := by decide +kernel
theorem ks211_0 : aseg kS krf kB [kE42, kE207, kE86] (ksp []) kE211 [kC211_0] 30000 (some kC211_0) = true := by decide +kernel
theorem kok211 : aOK kS krf kB kE211 := aOK_of (kal1 kok42 (kal1 kok207 (kal1 kok86 kal0))) (kcl1 ks211_0 kcl0) ks211
/-- ColdShodModel.firstFalse(II)I -/
def kE212 : aE := (204, 46, ([(.ofNat 0, .ofNat 7)], [], 0, [some (.inr [102]), some (.inl (.inl (.inr (.ofNat 51)))), some (.inl (.inl (.inl (0, .ofNat 0)))), none, none], []), ([], none), ([(.negSucc 1, .ofNat 21)], [], some (.inl (.inl (.inl (1, .ofNat 0)))), ([], [])), ([(102, 15), (102, 16), (102, 17), (102, 18), (102, 19), (102, 22), (102, 23), (111, 0), (111, 1), (111, 2), (111, 3), (111, 4), (111, 5)], [112]))
def kC212_0 : aC := (([(.ofNat 0, .ofNat 7), (.ofNat 0, .ofNat 21)], [], 10, [some (.inr [102]), some (.inl (.inl (.inr (.ofNat 51)))), some (.inl (.inl (.inl (0, .ofNat 0)))), some (.inl (.inl (.inr (.ofNat 1)))), some (.inl (.inl (.inl (1, .ofNat 0))))], []), ([], []), (21, [(-1, 1)]))
theorem ks212 : aseg kS krf kB [kE42, kE207, kE86] (ksp []) kE212 [kC212_0] 30000 (none) = true := by decide +kernel
theorem ks212_0 : aseg kS krf kB [kE42, kE207, kE86] (ksp []) kE212 [kC212_0] 30000 (some kC212_0) = true := by decide +kernel
theorem kok212 : aOK kS krf kB kE212 := aOK_of (kal1 kok42 (kal1 kok207 (kal1 kok86 kal0))) (kcl1 ks212_0 kcl0) ks212
/-- ColdShodModel.firstFalse(II)I -/
def kE213 : aE := (204, 46, ([(.ofNat 0, .ofNat 7)], [], 0, [some (.inr [102]), some (.inl (.inl (.inr (.ofNat 50)))), some (.inl (.inl (.inl (0, .ofNat 0)))), none, none], []), ([], none), ([(.negSucc 1, .ofNat 21)], [], some (.inl (.inl (.inl (1, .ofNat 0)))), ([], [])), ([(102, 15), (102, 16), (102, 17), (102, 18), (102, 19), (102, 22), (102, 23), (111, 0), (111, 1), (111, 2), (111, 3), (111, 4), (111, 5)], [112]))
def kC213_0 : aC := (([(.ofNat 0, .ofNat 7), (.ofNat 0, .ofNat 21)], [], 10, [some (.inr [102]), some (.inl (.inl (.inr (.ofNat 50)))), some (.inl (.inl (.inl (0, .ofNat 0)))), some (.inl (.inl (.inr (.ofNat 1)))), some (.inl (.inl (.inl (1, .ofNat 0))))], []), ([], []), (21, [(-1, 1)]))
theorem ks213 : aseg kS krf kB [kE42, kE207, kE86] (ksp []) kE213 [kC213_0] 30000 (none) = true := by decide +kernel
theorem ks213_0 : aseg kS krf kB [kE42, kE207, kE86] (ksp []) kE213 [kC213_0] 30000 (some kC213_0) = true := by decide +kernel
theorem kok213 : aOK kS krf kB kE213 := aOK_of (kal1 kok42 (kal1 kok207 (kal1 kok86 kal0))) (kcl1 ks213_0 kcl0) ks213
/-- ColdShodModel.roadMany(I)I -/
def kE214 : aE := (187, 2, ([], [], 0, [some (.inr [102]), some (.inl (.inl (.inr (.ofNat 4)))), none], []), ([], none), ([(.ofNat 0, .ofNat 20)], [], some (.inl (.inl (.inl (0, .ofNat 0)))), ([], [(.ofNat 240, .inl (0, .ofNat 0))])), ([], []))
def kC214_0 : aC := (([(.ofNat 0, .ofNat 20)], [], 2, [some (.inr [102]), some (.inl (.inl (.inr (.ofNat 4)))), some (.inl (.inl (.inl (0, .ofNat 0))))], []), ([], [(.ofNat 240, .inl (0, .ofNat 0))]), (20, [(-1, 0)]))
theorem ks214 : aseg kS krf kB [] (ksp []) kE214 [kC214_0] 30000 (none) = true := by decide +kernel
theorem ks214_0 : aseg kS krf kB [] (ksp []) kE214 [kC214_0] 30000 (some kC214_0) = true := by decide +kernel
theorem kok214 : aOK kS krf kB kE214 := aOK_of kal0 (kcl1 ks214_0 kcl0) ks214
/-- ColdShodModel.firstFalse(II)I -/
def kE215 : aE := (204, 46, ([(.ofNat 0, .ofNat 7)], [], 0, [some (.inr [102]), some (.inl (.inl (.inr (.ofNat 45)))), some (.inl (.inl (.inl (0, .ofNat 0)))), none, none], []), ([], none), ([(.negSucc 1, .ofNat 21)], [], some (.inl (.inl (.inl (1, .ofNat 0)))), ([], [])), ([(102, 15), (102, 16), (102, 17), (102, 18), (102, 19), (102, 22), (102, 23), (111, 0), (111, 1), (111, 2), (111, 3), (111, 4), (111, 5)], [112]))
def kC215_0 : aC := (([(.ofNat 0, .ofNat 7), (.ofNat 0, .ofNat 21)], [], 10, [some (.inr [102]), some (.inl (.inl (.inr (.ofNat 45)))), some (.inl (.inl (.inl (0, .ofNat 0)))), some (.inl (.inl (.inr (.ofNat 1)))), some (.inl (.inl (.inl (1, .ofNat 0))))], []), ([], []), (21, [(-1, 1)]))
theorem ks215 : aseg kS krf kB [kE42, kE214, kE86] (ksp []) kE215 [kC215_0] 30000 (none) = true := by decide +kernel
theorem ks215_0 : aseg kS krf kB [kE42, kE214, kE86] (ksp []) kE215 [kC215_0] 30000 (some kC215_0) = true := by decide +kernel
theorem kok215 : aOK kS krf kB kE215 := aOK_of (kal1 kok42 (kal1 kok214 (kal1 kok86 kal0))) (kcl1 ks215_0 kcl0) ks215
/-- ColdShodModel.firstFalse(II)I -/
def kE216 : aE := (204, 46, ([(.ofNat 0, .ofNat 7)], [], 0, [some (.inr [102]), some (.inl (.inl (.inr (.ofNat 44)))), some (.inl (.inl (.inl (0, .ofNat 0)))), none, none], []), ([], none), ([(.negSucc 1, .ofNat 21)], [], some (.inl (.inl (.inl (1, .ofNat 0)))), ([], [])), ([(102, 15), (102, 16), (102, 17), (102, 18), (102, 19), (102, 22), (102, 23), (111, 0), (111, 1), (111, 2), (111, 3), (111, 4), (111, 5)], [112]))
def kC216_0 : aC := (([(.ofNat 0, .ofNat 7), (.ofNat 0, .ofNat 21)], [], 10, [some (.inr [102]), some (.inl (.inl (.inr (.ofNat 44)))), some (.inl (.inl (.inl (0, .ofNat 0)))), some (.inl (.inl (.inr (.ofNat 1)))), some (.inl (.inl (.inl (1, .ofNat 0))))], []), ([], []), (21, [(-1, 1)]))
theorem ks216 : aseg kS krf kB [kE42, kE214, kE86] (ksp []) kE216 [kC216_0] 30000 (none) = true := by decide +kernel
theorem ks216_0 : aseg kS krf kB [kE42, kE214, kE86] (ksp []) kE216 [kC216_0] 30000 (some kC216_0) = true := by decide +kernel
theorem kok216 : aOK kS krf kB kE216 := aOK_of (kal1 kok42 (kal1 kok214 (kal1 kok86 kal0))) (kcl1 ks216_0 kcl0) ks216
/-- ColdShodModel.firstFalse(II)I -/
def kE217 : aE := (204, 46, ([(.ofNat 0, .ofNat 7)], [], 0, [some (.inr [102]), some (.inl (.inl (.inr (.ofNat 43)))), some (.inl (.inl (.inl (0, .ofNat 0)))), none, none], []), ([], none), ([(.negSucc 1, .ofNat 21)], [], some (.inl (.inl (.inl (1, .ofNat 0)))), ([], [])), ([(102, 15), (102, 16), (102, 17), (102, 18), (102, 19), (102, 22), (102, 23), (111, 0), (111, 1), (111, 2), (111, 3), (111, 4), (111, 5)], [112]))
def kC217_0 : aC := (([(.ofNat 0, .ofNat 7), (.ofNat 0, .ofNat 21)], [], 10, [some (.inr [102]), some (.inl (.inl (.inr (.ofNat 43)))), some (.inl (.inl (.inl (0, .ofNat 0)))), some (.inl (.inl (.inr (.ofNat 1)))), some (.inl (.inl (.inl (1, .ofNat 0))))], []), ([], []), (21, [(-1, 1)]))
theorem ks217 : aseg kS krf kB [kE42, kE214, kE86] (ksp []) kE217 [kC217_0] 30000 (none) = true := by decide +kernel
theorem ks217_0 : aseg kS krf kB [kE42, kE214, kE86] (ksp []) kE217 [kC217_0] 30000 (some kC217_0) = true := by decide +kernel
theorem kok217 : aOK kS krf kB kE217 := aOK_of (kal1 kok42 (kal1 kok214 (kal1 kok86 kal0))) (kcl1 ks217_0 kcl0) ks217
/-- ColdShodModel.firstFalse(II)I -/
def kE218 : aE := (204, 46, ([(.ofNat 0, .ofNat 7)], [], 0, [some (.inr [102]), some (.inl (.inl (.inr (.ofNat 42)))), some (.inl (.inl (.inl (0, .ofNat 0)))), none, none], []), ([], none), ([(.negSucc 1, .ofNat 21)], [], some (.inl (.inl (.inl (1, .ofNat 0)))), ([], [])), ([(102, 15), (102, 16), (102, 17), (102, 18), (102, 19), (102, 22), (102, 23), (111, 0), (111, 1), (111, 2), (111, 3), (111, 4), (111, 5)], [112]))
def kC218_0 : aC := (([(.ofNat 0, .ofNat 7), (.ofNat 0, .ofNat 21)], [], 10, [some (.inr [102]), some (.inl (.inl (.inr (.ofNat 42)))), some (.inl (.inl (.inl (0, .ofNat 0)))), some (.inl (.inl (.inr (.ofNat 1)))), some (.inl (.inl (.inl (1, .ofNat 0))))], []), ([], []), (21, [(-1, 1)]))
theorem ks218 : aseg kS krf kB [kE42, kE214, kE86] (ksp []) kE218 [kC218_0] 30000 (none) = true := by decide +kernel
theorem ks218_0 : aseg kS krf kB [kE42, kE214, kE86] (ksp []) kE218 [kC218_0] 30000 (some kC218_0) = true := by decide +kernel
theorem kok218 : aOK kS krf kB kE218 := aOK_of (kal1 kok42 (kal1 kok214 (kal1 kok86 kal0))) (kcl1 ks218_0 kcl0) ks218
/-- ColdShodModel.firstFalse(II)I -/
def kE219 : aE := (204, 46, ([(.ofNat 0, .ofNat 7)], [], 0, [some (.inr [102]), some (.inl (.inl (.inr (.ofNat 41)))), some (.inl (.inl (.inl (0, .ofNat 0)))), none, none], []), ([], none), ([(.negSucc 1, .ofNat 21)], [], some (.inl (.inl (.inl (1, .ofNat 0)))), ([], [])), ([(102, 15), (102, 16), (102, 17), (102, 18), (102, 19), (102, 22), (102, 23), (111, 0), (111, 1), (111, 2), (111, 3), (111, 4), (111, 5)], [112]))
def kC219_0 : aC := (([(.ofNat 0, .ofNat 7), (.ofNat 0, .ofNat 21)], [], 10, [some (.inr [102]), some (.inl (.inl (.inr (.ofNat 41)))), some (.inl (.inl (.inl (0, .ofNat 0)))), some (.inl (.inl (.inr (.ofNat 1)))), some (.inl (.inl (.inl (1, .ofNat 0))))], []), ([], []), (21, [(-1, 1)]))
theorem ks219 : aseg kS krf kB [kE42, kE214, kE86] (ksp []) kE219 [kC219_0] 30000 (none) = true := by decide +kernel
theorem ks219_0 : aseg kS krf kB [kE42, kE214, kE86] (ksp []) kE219 [kC219_0] 30000 (some kC219_0) = true := by decide +kernel
theorem kok219 : aOK kS krf kB kE219 := aOK_of (kal1 kok42 (kal1 kok214 (kal1 kok86 kal0))) (kcl1 ks219_0 kcl0) ks219
/-- ColdShodModel.firstFalse(II)I -/
def kE220 : aE := (204, 46, ([(.ofNat 0, .ofNat 7)], [], 0, [some (.inr [102]), some (.inl (.inl (.inr (.ofNat 40)))), some (.inl (.inl (.inl (0, .ofNat 0)))), none, none], []), ([], none), ([(.negSucc 1, .ofNat 21)], [], some (.inl (.inl (.inl (1, .ofNat 0)))), ([], [])), ([(102, 15), (102, 16), (102, 17), (102, 18), (102, 19), (102, 22), (102, 23), (111, 0), (111, 1), (111, 2), (111, 3), (111, 4), (111, 5)], [112]))
def kC220_0 : aC := (([(.ofNat 0, .ofNat 7), (.ofNat 0, .ofNat 21)], [], 10, [some (.inr [102]), some (.inl (.inl (.inr (.ofNat 40)))), some (.inl (.inl (.inl (0, .ofNat 0)))), some (.inl (.inl (.inr (.ofNat 1)))), some (.inl (.inl (.inl (1, .ofNat 0))))], []), ([], []), (21, [(-1, 1)]))
theorem ks220 : aseg kS krf kB [kE42, kE214, kE86] (ksp []) kE220 [kC220_0] 30000 (none) = true := by decide +kernel
theorem ks220_0 : aseg kS krf kB [kE42, kE214, kE86] (ksp []) kE220 [kC220_0] 30000 (some kC220_0) = true := by decide +kernel
theorem kok220 : aOK kS krf kB kE220 := aOK_of (kal1 kok42 (kal1 kok214 (kal1 kok86 kal0))) (kcl1 ks220_0 kcl0) ks220
/-- ColdShodModel.roadMany(I)I -/
def kE221 : aE := (187, 2, ([], [], 0, [some (.inr [102]), some (.inl (.inl (.inr (.ofNat 3)))), none], []), ([], none), ([(.ofNat 0, .ofNat 20)], [], some (.inl (.inl (.inl (0, .ofNat 0)))), ([], [(.ofNat 180, .inl (0, .ofNat 0))])), ([], []))
def kC221_0 : aC := (([(.ofNat 0, .ofNat 20)], [], 2, [some (.inr [102]), some (.inl (.inl (.inr (.ofNat 3)))), some (.inl (.inl (.inl (0, .ofNat 0))))], []), ([], [(.ofNat 180, .inl (0, .ofNat 0))]), (20, [(-1, 0)]))
theorem ks221 : aseg kS krf kB [] (ksp []) kE221 [kC221_0] 30000 (none) = true := by decide +kernel
theorem ks221_0 : aseg kS krf kB [] (ksp []) kE221 [kC221_0] 30000 (some kC221_0) = true := by decide +kernel
theorem kok221 : aOK kS krf kB kE221 := aOK_of kal0 (kcl1 ks221_0 kcl0) ks221
/-- ColdShodModel.firstFalse(II)I -/
def kE222 : aE := (204, 46, ([(.ofNat 0, .ofNat 7)], [], 0, [some (.inr [102]), some (.inl (.inl (.inr (.ofNat 35)))), some (.inl (.inl (.inl (0, .ofNat 0)))), none, none], []), ([], none), ([(.negSucc 1, .ofNat 21)], [], some (.inl (.inl (.inl (1, .ofNat 0)))), ([], [])), ([(102, 15), (102, 16), (102, 17), (102, 18), (102, 19), (102, 22), (102, 23), (111, 0), (111, 1), (111, 2), (111, 3), (111, 4), (111, 5)], [112]))
def kC222_0 : aC := (([(.ofNat 0, .ofNat 7), (.ofNat 0, .ofNat 21)], [], 10, [some (.inr [102]), some (.inl (.inl (.inr (.ofNat 35)))), some (.inl (.inl (.inl (0, .ofNat 0)))), some (.inl (.inl (.inr (.ofNat 1)))), some (.inl (.inl (.inl (1, .ofNat 0))))], []), ([], []), (21, [(-1, 1)]))
theorem ks222 : aseg kS krf kB [kE42, kE221, kE86] (ksp []) kE222 [kC222_0] 30000 (none) = true := by decide +kernel
theorem ks222_0 : aseg kS krf kB [kE42, kE221, kE86] (ksp []) kE222 [kC222_0] 30000 (some kC222_0) = true := by decide +kernel
theorem kok222 : aOK kS krf kB kE222 := aOK_of (kal1 kok42 (kal1 kok221 (kal1 kok86 kal0))) (kcl1 ks222_0 kcl0) ks222
/-- ColdShodModel.firstFalse(II)I -/
def kE223 : aE := (204, 46, ([(.ofNat 0, .ofNat 7)], [], 0, [some (.inr [102]), some (.inl (.inl (.inr (.ofNat 34)))), some (.inl (.inl (.inl (0, .ofNat 0)))), none, none], []), ([], none), ([(.negSucc 1, .ofNat 21)], [], some (.inl (.inl (.inl (1, .ofNat 0)))), ([], [])), ([(102, 15), (102, 16), (102, 17), (102, 18), (102, 19), (102, 22), (102, 23), (111, 0), (111, 1), (111, 2), (111, 3), (111, 4), (111, 5)], [112]))
def kC223_0 : aC := (([(.ofNat 0, .ofNat 7), (.ofNat 0, .ofNat 21)], [], 10, [some (.inr [102]), some (.inl (.inl (.inr (.ofNat 34)))), some (.inl (.inl (.inl (0, .ofNat 0)))), some (.inl (.inl (.inr (.ofNat 1)))), some (.inl (.inl (.inl (1, .ofNat 0))))], []), ([], []), (21, [(-1, 1)]))
theorem ks223 : aseg kS krf kB [kE42, kE221, kE86] (ksp []) kE223 [kC223_0] 30000 (none) = true := by decide +kernel
theorem ks223_0 : aseg kS krf kB [kE42, kE221, kE86] (ksp []) kE223 [kC223_0] 30000 (some kC223_0) = true := by decide +kernel
theorem kok223 : aOK kS krf kB kE223 := aOK_of (kal1 kok42 (kal1 kok221 (kal1 kok86 kal0))) (kcl1 ks223_0 kcl0) ks223
/-- ColdShodModel.firstFalse(II)I -/
def kE224 : aE := (204, 46, ([(.ofNat 0, .ofNat 7)], [], 0, [some (.inr [102]), some (.inl (.inl (.inr (.ofNat 33)))), some (.inl (.inl (.inl (0, .ofNat 0)))), none, none], []), ([], none), ([(.negSucc 1, .ofNat 21)], [], some (.inl (.inl (.inl (1, .ofNat 0)))), ([], [])), ([(102, 15), (102, 16), (102, 17), (102, 18), (102, 19), (102, 22), (102, 23), (111, 0), (111, 1), (111, 2), (111, 3), (111, 4), (111, 5)], [112]))
def kC224_0 : aC := (([(.ofNat 0, .ofNat 7), (.ofNat 0, .ofNat 21)], [], 10, [some (.inr [102]), some (.inl (.inl (.inr (.ofNat 33)))), some (.inl (.inl (.inl (0, .ofNat 0)))), some (.inl (.inl (.inr (.ofNat 1)))), some (.inl (.inl (.inl (1, .ofNat 0))))], []), ([], []), (21, [(-1, 1)]))
theorem ks224 : aseg kS krf kB [kE42, kE221, kE86] (ksp []) kE224 [kC224_0] 30000 (none) = true := by decide +kernel
theorem ks224_0 : aseg kS krf kB [kE42, kE221, kE86] (ksp []) kE224 [kC224_0] 30000 (some kC224_0) = true := by decide +kernel
theorem kok224 : aOK kS krf kB kE224 := aOK_of (kal1 kok42 (kal1 kok221 (kal1 kok86 kal0))) (kcl1 ks224_0 kcl0) ks224
/-- ColdShodModel.firstFalse(II)I -/
def kE225 : aE := (204, 46, ([(.ofNat 0, .ofNat 7)], [], 0, [some (.inr [102]), some (.inl (.inl (.inr (.ofNat 32)))), some (.inl (.inl (.inl (0, .ofNat 0)))), none, none], []), ([], none), ([(.negSucc 1, .ofNat 21)], [], some (.inl (.inl (.inl (1, .ofNat 0)))), ([], [])), ([(102, 15), (102, 16), (102, 17), (102, 18), (102, 19), (102, 22), (102, 23), (111, 0), (111, 1), (111, 2), (111, 3), (111, 4), (111, 5)], [112]))
def kC225_0 : aC := (([(.ofNat 0, .ofNat 7), (.ofNat 0, .ofNat 21)], [], 10, [some (.inr [102]), some (.inl (.inl (.inr (.ofNat 32)))), some (.inl (.inl (.inl (0, .ofNat 0)))), some (.inl (.inl (.inr (.ofNat 1)))), some (.inl (.inl (.inl (1, .ofNat 0))))], []), ([], []), (21, [(-1, 1)]))
theorem ks225 : aseg kS krf kB [kE42, kE221, kE86] (ksp []) kE225 [kC225_0] 30000 (none) = true := by decide +kernel
theorem ks225_0 : aseg kS krf kB [kE42, kE221, kE86] (ksp []) kE225 [kC225_0] 30000 (some kC225_0) = true := by decide +kernel
theorem kok225 : aOK kS krf kB kE225 := aOK_of (kal1 kok42 (kal1 kok221 (kal1 kok86 kal0))) (kcl1 ks225_0 kcl0) ks225
/-- ColdShodModel.firstFalse(II)I -/
def kE226 : aE := (204, 46, ([(.ofNat 0, .ofNat 7)], [], 0, [some (.inr [102]), some (.inl (.inl (.inr (.ofNat 31)))), some (.inl (.inl (.inl (0, .ofNat 0)))), none, none], []), ([], none), ([(.negSucc 1, .ofNat 21)], [], some (.inl (.inl (.inl (1, .ofNat 0)))), ([], [])), ([(102, 15), (102, 16), (102, 17), (102, 18), (102, 19), (102, 22), (102, 23), (111, 0), (111, 1), (111, 2), (111, 3), (111, 4), (111, 5)], [112]))
def kC226_0 : aC := (([(.ofNat 0, .ofNat 7), (.ofNat 0, .ofNat 21)], [], 10, [some (.inr [102]), some (.inl (.inl (.inr (.ofNat 31)))), some (.inl (.inl (.inl (0, .ofNat 0)))), some (.inl (.inl (.inr (.ofNat 1)))), some (.inl (.inl (.inl (1, .ofNat 0))))], []), ([], []), (21, [(-1, 1)]))
theorem ks226 : aseg kS krf kB [kE42, kE221, kE86] (ksp []) kE226 [kC226_0] 30000 (none) = true := by decide +kernel
theorem ks226_0 : aseg kS krf kB [kE42, kE221, kE86] (ksp []) kE226 [kC226_0] 30000 (some kC226_0) = true := by decide +kernel
theorem kok226 : aOK kS krf kB kE226 := aOK_of (kal1 kok42 (kal1 kok221 (kal1 kok86 kal0))) (kcl1 ks226_0 kcl0) ks226
/-- ColdShodModel.firstFalse(II)I -/
def kE227 : aE := (204, 46, ([(.ofNat 0, .ofNat 7)], [], 0, [some (.inr [102]), some (.inl (.inl (.inr (.ofNat 30)))), some (.inl (.inl (.inl (0, .ofNat 0)))), none, none], []), ([], none), ([(.negSucc 1, .ofNat 21)], [], some (.inl (.inl (.inl (1, .ofNat 0)))), ([], [])), ([(102, 15), (102, 16), (102, 17), (102, 18), (102, 19), (102, 22), (102, 23), (111, 0), (111, 1), (111, 2), (111, 3), (111, 4), (111, 5)], [112]))
def kC227_0 : aC := (([(.ofNat 0, .ofNat 7), (.ofNat 0, .ofNat 21)], [], 10, [some (.inr [102]), some (.inl (.inl (.inr (.ofNat 30)))), some (.inl (.inl (.inl (0, .ofNat 0)))), some (.inl (.inl (.inr (.ofNat 1)))), some (.inl (.inl (.inl (1, .ofNat 0))))], []), ([], []), (21, [(-1, 1)]))
theorem ks227 : aseg kS krf kB [kE42, kE221, kE86] (ksp []) kE227 [kC227_0] 30000 (none) = true := by decide +kernel
theorem ks227_0 : aseg kS krf kB [kE42, kE221, kE86] (ksp []) kE227 [kC227_0] 30000 (some kC227_0) = true := by decide +kernel
theorem kok227 : aOK kS krf kB kE227 := aOK_of (kal1 kok42 (kal1 kok221 (kal1 kok86 kal0))) (kcl1 ks227_0 kcl0) ks227
/-- ColdShodModel.roadMany(I)I -/
def kE228 : aE := (187, 2, ([], [], 0, [some (.inr [102]), some (.inl (.inl (.inr (.ofNat 2)))), none], []), ([], none), ([(.ofNat 0, .ofNat 20)], [], some (.inl (.inl (.inl (0, .ofNat 0)))), ([], [(.ofNat 120, .inl (0, .ofNat 0))])), ([], []))
def kC228_0 : aC := (([(.ofNat 0, .ofNat 20)], [], 2, [some (.inr [102]), some (.inl (.inl (.inr (.ofNat 2)))), some (.inl (.inl (.inl (0, .ofNat 0))))], []), ([], [(.ofNat 120, .inl (0, .ofNat 0))]), (20, [(-1, 0)]))
theorem ks228 : aseg kS krf kB [] (ksp []) kE228 [kC228_0] 30000 (none) = true := by decide +kernel
theorem ks228_0 : aseg kS krf kB [] (ksp []) kE228 [kC228_0] 30000 (some kC228_0) = true := by decide +kernel
theorem kok228 : aOK kS krf kB kE228 := aOK_of kal0 (kcl1 ks228_0 kcl0) ks228
/-- ColdShodModel.firstFalse(II)I -/
def kE229 : aE := (204, 46, ([(.ofNat 0, .ofNat 7)], [], 0, [some (.inr [102]), some (.inl (.inl (.inr (.ofNat 25)))), some (.inl (.inl (.inl (0, .ofNat 0)))), none, none], []), ([], none), ([(.negSucc 1, .ofNat 21)], [], some (.inl (.inl (.inl (1, .ofNat 0)))), ([], [])), ([(102, 15), (102, 16), (102, 17), (102, 18), (102, 19), (102, 22), (102, 23), (111, 0), (111, 1), (111, 2), (111, 3), (111, 4), (111, 5)], [112]))
def kC229_0 : aC := (([(.ofNat 0, .ofNat 7), (.ofNat 0, .ofNat 21)], [], 10, [some (.inr [102]), some (.inl (.inl (.inr (.ofNat 25)))), some (.inl (.inl (.inl (0, .ofNat 0)))), some (.inl (.inl (.inr (.ofNat 1)))), some (.inl (.inl (.inl (1, .ofNat 0))))], []), ([], []), (21, [(-1, 1)]))
theorem ks229 : aseg kS krf kB [kE42, kE228, kE86] (ksp []) kE229 [kC229_0] 30000 (none) = true := by decide +kernel
theorem ks229_0 : aseg kS krf kB [kE42, kE228, kE86] (ksp []) kE229 [kC229_0] 30000 (some kC229_0) = true := by decide +kernel
theorem kok229 : aOK kS krf kB kE229 := aOK_of (kal1 kok42 (kal1 kok228 (kal1 kok86 kal0))) (kcl1 ks229_0 kcl0) ks229
/-- ColdShodModel.firstFalse(II)I -/
def kE230 : aE := (204, 46, ([(.ofNat 0, .ofNat 7)], [], 0, [some (.inr [102]), some (.inl (.inl (.inr (.ofNat 24)))), some (.inl (.inl (.inl (0, .ofNat 0)))), none, none], []), ([], none), ([(.negSucc 1, .ofNat 21)], [], some (.inl (.inl (.inl (1, .ofNat 0)))), ([], [])), ([(102, 15), (102, 16), (102, 17), (102, 18), (102, 19), (102, 22), (102, 23), (111, 0), (111, 1), (111, 2), (111, 3), (111, 4), (111, 5)], [112]))
def kC230_0 : aC := (([(.ofNat 0, .ofNat 7), (.ofNat 0, .ofNat 21)], [], 10, [some (.inr [102]), some (.inl (.inl (.inr (.ofNat 24)))), some (.inl (.inl (.inl (0, .ofNat 0)))), some (.inl (.inl (.inr (.ofNat 1)))), some (.inl (.inl (.inl (1, .ofNat 0))))], []), ([], []), (21, [(-1, 1)]))
theorem ks230 : aseg kS krf kB [kE42, kE228, kE86] (ksp []) kE230 [kC230_0] 30000 (none) = true := by decide +kernel
theorem ks230_0 : aseg kS krf kB [kE42, kE228, kE86] (ksp []) kE230 [kC230_0] 30000 (some kC230_0) = true := by decide +kernel
theorem kok230 : aOK kS krf kB kE230 := aOK_of (kal1 kok42 (kal1 kok228 (kal1 kok86 kal0))) (kcl1 ks230_0 kcl0) ks230
/-- ColdShodModel.firstFalse(II)I -/
def kE231 : aE := (204, 46, ([(.ofNat 0, .ofNat 7)], [], 0, [some (.inr [102]), some (.inl (.inl (.inr (.ofNat 23)))), some (.inl (.inl (.inl (0, .ofNat 0)))), none, none], []), ([], none), ([(.negSucc 1, .ofNat 21)], [], some (.inl (.inl (.inl (1, .ofNat 0)))), ([], [])), ([(102, 15), (102, 16), (102, 17), (102, 18), (102, 19), (102, 22), (102, 23), (111, 0), (111, 1), (111, 2), (111, 3), (111, 4), (111, 5)], [112]))
def kC231_0 : aC := (([(.ofNat 0, .ofNat 7), (.ofNat 0, .ofNat 21)], [], 10, [some (.inr [102]), some (.inl (.inl (.inr (.ofNat 23)))), some (.inl (.inl (.inl (0, .ofNat 0)))), some (.inl (.inl (.inr (.ofNat 1)))), some (.inl (.inl (.inl (1, .ofNat 0))))], []), ([], []), (21, [(-1, 1)]))
theorem ks231 : aseg kS krf kB [kE42, kE228, kE86] (ksp []) kE231 [kC231_0] 30000 (none) = true := by decide +kernel
theorem ks231_0 : aseg kS krf kB [kE42, kE228, kE86] (ksp []) kE231 [kC231_0] 30000 (some kC231_0) = true := by decide +kernel
theorem kok231 : aOK kS krf kB kE231 := aOK_of (kal1 kok42 (kal1 kok228 (kal1 kok86 kal0))) (kcl1 ks231_0 kcl0) ks231
/-- ColdShodModel.firstFalse(II)I -/
def kE232 : aE := (204, 46, ([(.ofNat 0, .ofNat 7)], [], 0, [some (.inr [102]), some (.inl (.inl (.inr (.ofNat 22)))), some (.inl (.inl (.inl (0, .ofNat 0)))), none, none], []), ([], none), ([(.negSucc 1, .ofNat 21)], [], some (.inl (.inl (.inl (1, .ofNat 0)))), ([], [])), ([(102, 15), (102, 16), (102, 17), (102, 18), (102, 19), (102, 22), (102, 23), (111, 0), (111, 1), (111, 2), (111, 3), (111, 4), (111, 5)], [112]))
def kC232_0 : aC := (([(.ofNat 0, .ofNat 7), (.ofNat 0, .ofNat 21)], [], 10, [some (.inr [102]), some (.inl (.inl (.inr (.ofNat 22)))), some (.inl (.inl (.inl (0, .ofNat 0)))), some (.inl (.inl (.inr (.ofNat 1)))), some (.inl (.inl (.inl (1, .ofNat 0))))], []), ([], []), (21, [(-1, 1)]))
theorem ks232 : aseg kS krf kB [kE42, kE228, kE86] (ksp []) kE232 [kC232_0] 30000 (none) = true := by decide +kernel
theorem ks232_0 : aseg kS krf kB [kE42, kE228, kE86] (ksp []) kE232 [kC232_0] 30000 (some kC232_0) = true := by decide +kernel
theorem kok232 : aOK kS krf kB kE232 := aOK_of (kal1 kok42 (kal1 kok228 (kal1 kok86 kal0))) (kcl1 ks232_0 kcl0) ks232
/-- ColdShodModel.firstFalse(II)I -/
def kE233 : aE := (204, 46, ([(.ofNat 0, .ofNat 7)], [], 0, [some (.inr [102]), some (.inl (.inl (.inr (.ofNat 21)))), some (.inl (.inl (.inl (0, .ofNat 0)))), none, none], []), ([], none), ([(.negSucc 1, .ofNat 21)], [], some (.inl (.inl (.inl (1, .ofNat 0)))), ([], [])), ([(102, 15), (102, 16), (102, 17), (102, 18), (102, 19), (102, 22), (102, 23), (111, 0), (111, 1), (111, 2), (111, 3), (111, 4), (111, 5)], [112]))
def kC233_0 : aC := (([(.ofNat 0, .ofNat 7), (.ofNat 0, .ofNat 21)], [], 10, [some (.inr [102]), some (.inl (.inl (.inr (.ofNat 21)))), some (.inl (.inl (.inl (0, .ofNat 0)))), some (.inl (.inl (.inr (.ofNat 1)))), some (.inl (.inl (.inl (1, .ofNat 0))))], []), ([], []), (21, [(-1, 1)]))
theorem ks233 : aseg kS krf kB [kE42, kE228, kE86] (ksp []) kE233 [kC233_0] 30000 (none) = true := by decide +kernel
theorem ks233_0 : aseg kS krf kB [kE42, kE228, kE86] (ksp []) kE233 [kC233_0] 30000 (some kC233_0) = true := by decide +kernel
theorem kok233 : aOK kS krf kB kE233 := aOK_of (kal1 kok42 (kal1 kok228 (kal1 kok86 kal0))) (kcl1 ks233_0 kcl0) ks233
/-- ColdShodModel.firstFalse(II)I -/
def kE234 : aE := (204, 46, ([(.ofNat 0, .ofNat 7)], [], 0, [some (.inr [102]), some (.inl (.inl (.inr (.ofNat 20)))), some (.inl (.inl (.inl (0, .ofNat 0)))), none, none], []), ([], none), ([(.negSucc 1, .ofNat 21)], [], some (.inl (.inl (.inl (1, .ofNat 0)))), ([], [])), ([(102, 15), (102, 16), (102, 17), (102, 18), (102, 19), (102, 22), (102, 23), (111, 0), (111, 1), (111, 2), (111, 3), (111, 4), (111, 5)], [112]))
def kC234_0 : aC := (([(.ofNat 0, .ofNat 7), (.ofNat 0, .ofNat 21)], [], 10, [some (.inr [102]), some (.inl (.inl (.inr (.ofNat 20)))), some (.inl (.inl (.inl (0, .ofNat 0)))), some (.inl (.inl (.inr (.ofNat 1)))), some (.inl (.inl (.inl (1, .ofNat 0))))], []), ([], []), (21, [(-1, 1)]))
theorem ks234 : aseg kS krf kB [kE42, kE228, kE86] (ksp []) kE234 [kC234_0] 30000 (none) = true := by decide +kernel
theorem ks234_0 : aseg kS krf kB [kE42, kE228, kE86] (ksp []) kE234 [kC234_0] 30000 (some kC234_0) = true := by decide +kernel
theorem kok234 : aOK kS krf kB kE234 := aOK_of (kal1 kok42 (kal1 kok228 (kal1 kok86 kal0))) (kcl1 ks234_0 kcl0) ks234
/-- ColdShodModel.roadMany(I)I -/
def kE235 : aE := (187, 2, ([], [], 0, [some (.inr [102]), some (.inl (.inl (.inr (.ofNat 1)))), none], []), ([], none), ([(.ofNat 0, .ofNat 20)], [], some (.inl (.inl (.inl (0, .ofNat 0)))), ([], [(.ofNat 60, .inl (0, .ofNat 0))])), ([], []))
def kC235_0 : aC := (([(.ofNat 0, .ofNat 20)], [], 2, [some (.inr [102]), some (.inl (.inl (.inr (.ofNat 1)))), some (.inl (.inl (.inl (0, .ofNat 0))))], []), ([], [(.ofNat 60, .inl (0, .ofNat 0))]), (20, [(-1, 0)]))
theorem ks235 : aseg kS krf kB [] (ksp []) kE235 [kC235_0] 30000 (none) = true := by decide +kernel
theorem ks235_0 : aseg kS krf kB [] (ksp []) kE235 [kC235_0] 30000 (some kC235_0) = true := by decide +kernel
theorem kok235 : aOK kS krf kB kE235 := aOK_of kal0 (kcl1 ks235_0 kcl0) ks235
/-- ColdShodModel.firstFalse(II)I -/
def kE236 : aE := (204, 46, ([(.ofNat 0, .ofNat 7)], [], 0, [some (.inr [102]), some (.inl (.inl (.inr (.ofNat 15)))), some (.inl (.inl (.inl (0, .ofNat 0)))), none, none], []), ([], none), ([(.negSucc 1, .ofNat 21)], [], some (.inl (.inl (.inl (1, .ofNat 0)))), ([], [])), ([(102, 15), (102, 16), (102, 17), (102, 18), (102, 19), (102, 22), (102, 23), (111, 0), (111, 1), (111, 2), (111, 3), (111, 4), (111, 5)], [112]))
def kC236_0 : aC := (([(.ofNat 0, .ofNat 7), (.ofNat 0, .ofNat 21)], [], 10, [some (.inr [102]), some (.inl (.inl (.inr (.ofNat 15)))), some (.inl (.inl (.inl (0, .ofNat 0)))), some (.inl (.inl (.inr (.ofNat 1)))), some (.inl (.inl (.inl (1, .ofNat 0))))], []), ([], []), (21, [(-1, 1)]))
theorem ks236 : aseg kS krf kB [kE42, kE235, kE86] (ksp []) kE236 [kC236_0] 30000 (none) = true := by decide +kernel
theorem ks236_0 : aseg kS krf kB [kE42, kE235, kE86] (ksp []) kE236 [kC236_0] 30000 (some kC236_0) = true := by decide +kernel
theorem kok236 : aOK kS krf kB kE236 := aOK_of (kal1 kok42 (kal1 kok235 (kal1 kok86 kal0))) (kcl1 ks236_0 kcl0) ks236
/-- ColdShodModel.firstFalse(II)I -/
def kE237 : aE := (204, 46, ([(.ofNat 0, .ofNat 7)], [], 0, [some (.inr [102]), some (.inl (.inl (.inr (.ofNat 14)))), some (.inl (.inl (.inl (0, .ofNat 0)))), none, none], []), ([], none), ([(.negSucc 1, .ofNat 21)], [], some (.inl (.inl (.inl (1, .ofNat 0)))), ([], [])), ([(102, 15), (102, 16), (102, 17), (102, 18), (102, 19), (102, 22), (102, 23), (111, 0), (111, 1), (111, 2), (111, 3), (111, 4), (111, 5)], [112]))
def kC237_0 : aC := (([(.ofNat 0, .ofNat 7), (.ofNat 0, .ofNat 21)], [], 10, [some (.inr [102]), some (.inl (.inl (.inr (.ofNat 14)))), some (.inl (.inl (.inl (0, .ofNat 0)))), some (.inl (.inl (.inr (.ofNat 1)))), some (.inl (.inl (.inl (1, .ofNat 0))))], []), ([], []), (21, [(-1, 1)]))
theorem ks237 : aseg kS krf kB [kE42, kE235, kE86] (ksp []) kE237 [kC237_0] 30000 (none) = true := by decide +kernel
theorem ks237_0 : aseg kS krf kB [kE42, kE235, kE86] (ksp []) kE237 [kC237_0] 30000 (some kC237_0) = true := by decide +kernel
theorem kok237 : aOK kS krf kB kE237 := aOK_of (kal1 kok42 (kal1 kok235 (kal1 kok86 kal0))) (kcl1 ks237_0 kcl0) ks237
/-- ColdShodModel.firstFalse(II)I -/
def kE238 : aE := (204, 46, ([(.ofNat 0, .ofNat 7)], [], 0, [some (.inr [102]), some (.inl (.inl (.inr (.ofNat 13)))), some (.inl (.inl (.inl (0, .ofNat 0)))), none, none], []), ([], none), ([(.negSucc 1, .ofNat 21)], [], some (.inl (.inl (.inl (1, .ofNat 0)))), ([], [])), ([(102, 15), (102, 16), (102, 17), (102, 18), (102, 19), (102, 22), (102, 23), (111, 0), (111, 1), (111, 2), (111, 3), (111, 4), (111, 5)], [112]))
def kC238_0 : aC := (([(.ofNat 0, .ofNat 7), (.ofNat 0, .ofNat 21)], [], 10, [some (.inr [102]), some (.inl (.inl (.inr (.ofNat 13)))), some (.inl (.inl (.inl (0, .ofNat 0)))), some (.inl (.inl (.inr (.ofNat 1)))), some (.inl (.inl (.inl (1, .ofNat 0))))], []), ([], []), (21, [(-1, 1)]))
theorem ks238 : aseg kS krf kB [kE42, kE235, kE86] (ksp []) kE238 [kC238_0] 30000 (none) = true := by decide +kernel
theorem ks238_0 : aseg kS krf kB [kE42, kE235, kE86] (ksp []) kE238 [kC238_0] 30000 (some kC238_0) = true := by decide +kernel
theorem kok238 : aOK kS krf kB kE238 := aOK_of (kal1 kok42 (kal1 kok235 (kal1 kok86 kal0))) (kcl1 ks238_0 kcl0) ks238
/-- ColdShodModel.firstFalse(II)I -/
def kE239 : aE := (204, 46, ([(.ofNat 0, .ofNat 7)], [], 0, [some (.inr [102]), some (.inl (.inl (.inr (.ofNat 12)))), some (.inl (.inl (.inl (0, .ofNat 0)))), none, none], []), ([], none), ([(.negSucc 1, .ofNat 21)], [], some (.inl (.inl (.inl (1, .ofNat 0)))), ([], [])), ([(102, 15), (102, 16), (102, 17), (102, 18), (102, 19), (102, 22), (102, 23), (111, 0), (111, 1), (111, 2), (111, 3), (111, 4), (111, 5)], [112]))
def kC239_0 : aC := (([(.ofNat 0, .ofNat 7), (.ofNat 0, .ofNat 21)], [], 10, [some (.inr [102]), some (.inl (.inl (.inr (.ofNat 12)))), some (.inl (.inl (.inl (0, .ofNat 0)))), some (.inl (.inl (.inr (.ofNat 1)))), some (.inl (.inl (.inl (1, .ofNat 0))))], []), ([], []), (21, [(-1, 1)]))
theorem ks239 : aseg kS krf kB [kE42, kE235, kE86] (ksp []) kE239 [kC239_0] 30000 (none) = true := by decide +kernel
theorem ks239_0 : aseg kS krf kB [kE42, kE235, kE86] (ksp []) kE239 [kC239_0] 30000 (some kC239_0) = true := by decide +kernel
theorem kok239 : aOK kS krf kB kE239 := aOK_of (kal1 kok42 (kal1 kok235 (kal1 kok86 kal0))) (kcl1 ks239_0 kcl0) ks239
/-- ColdShodModel.firstFalse(II)I -/
def kE240 : aE := (204, 46, ([(.ofNat 0, .ofNat 7)], [], 0, [some (.inr [102]), some (.inl (.inl (.inr (.ofNat 11)))), some (.inl (.inl (.inl (0, .ofNat 0)))), none, none], []), ([], none), ([(.negSucc 1, .ofNat 21)], [], some (.inl (.inl (.inl (1, .ofNat 0)))), ([], [])), ([(102, 15), (102, 16), (102, 17), (102, 18), (102, 19), (102, 22), (102, 23), (111, 0), (111, 1), (111, 2), (111, 3), (111, 4), (111, 5)], [112]))
def kC240_0 : aC := (([(.ofNat 0, .ofNat 7), (.ofNat 0, .ofNat 21)], [], 10, [some (.inr [102]), some (.inl (.inl (.inr (.ofNat 11)))), some (.inl (.inl (.inl (0, .ofNat 0)))), some (.inl (.inl (.inr (.ofNat 1)))), some (.inl (.inl (.inl (1, .ofNat 0))))], []), ([], []), (21, [(-1, 1)]))
theorem ks240 : aseg kS krf kB [kE42, kE235, kE86] (ksp []) kE240 [kC240_0] 30000 (none) = true := by decide +kernel
theorem ks240_0 : aseg kS krf kB [kE42, kE235, kE86] (ksp []) kE240 [kC240_0] 30000 (some kC240_0) = true := by decide +kernel
theorem kok240 : aOK kS krf kB kE240 := aOK_of (kal1 kok42 (kal1 kok235 (kal1 kok86 kal0))) (kcl1 ks240_0 kcl0) ks240
/-- ColdShodModel.firstFalse(II)I -/
def kE241 : aE := (204, 46, ([(.ofNat 0, .ofNat 7)], [], 0, [some (.inr [102]), some (.inl (.inl (.inr (.ofNat 10)))), some (.inl (.inl (.inl (0, .ofNat 0)))), none, none], []), ([], none), ([(.negSucc 1, .ofNat 21)], [], some (.inl (.inl (.inl (1, .ofNat 0)))), ([], [])), ([(102, 15), (102, 16), (102, 17), (102, 18), (102, 19), (102, 22), (102, 23), (111, 0), (111, 1), (111, 2), (111, 3), (111, 4), (111, 5)], [112]))
def kC241_0 : aC := (([(.ofNat 0, .ofNat 7), (.ofNat 0, .ofNat 21)], [], 10, [some (.inr [102]), some (.inl (.inl (.inr (.ofNat 10)))), some (.inl (.inl (.inl (0, .ofNat 0)))), some (.inl (.inl (.inr (.ofNat 1)))), some (.inl (.inl (.inl (1, .ofNat 0))))], []), ([], []), (21, [(-1, 1)]))
theorem ks241 : aseg kS krf kB [kE42, kE235, kE86] (ksp []) kE241 [kC241_0] 30000 (none) = true := by decide +kernel
theorem ks241_0 : aseg kS krf kB [kE42, kE235, kE86] (ksp []) kE241 [kC241_0] 30000 (some kC241_0) = true := by decide +kernel
theorem kok241 : aOK kS krf kB kE241 := aOK_of (kal1 kok42 (kal1 kok235 (kal1 kok86 kal0))) (kcl1 ks241_0 kcl0) ks241
