/-! ENTRIES for the proof of allAsk by hand: printed by a program (wip/ai/sub.py). -/
/-- ColdShodModel.headRather(III)Z -/
def kE9000 : aE := (195, 1, ([(.ofNat 0, .ofNat 5), (.ofNat 0, .ofNat 7), (.ofNat 0, .ofNat 7)], [], 0, [some (.inr [102]), some (.inl (.inl (.inl (0, .ofNat 0)))), some (.inl (.inl (.inl (1, .ofNat 0)))), some (.inl (.inl (.inl (2, .ofNat 0)))), none, none], []), ([], none), ([(.ofNat 0, .ofNat 1)], [], some (.inl (.inl (.inl (3, .ofNat 0)))), ([], [])), ([], []))
theorem ks9000 : aseg kS krf kB [] (ksp []) kE9000 [] 30000 (none) = true := by decide +kernel
theorem kok9000 : aOK kS krf kB kE9000 := aOK_of kal0 kcl0 ks9000
/-- ColdShodModel.ideaOf(I)I -/
def kE9001 : aE := (197, 0, ([(.ofNat 0, .ofNat 5)], [], 0, [some (.inr [102]), some (.inl (.inl (.inl (0, .ofNat 0)))), none], []), ([], none), ([(.negSucc 0, .ofNat 7)], [], some (.inl (.inl (.inl (1, .ofNat 0)))), ([], [])), ([], []))
def kC9001_0 : aC := (([(.ofNat 0, .ofNat 5), (.ofNat 0, .ofNat 8)], [], 2, [some (.inr [102]), some (.inl (.inl (.inl (0, .ofNat 0)))), some (.inl (.inl (.inl (1, .ofNat 0))))], []), ([], []), (8, [(-1, 1)]))
theorem ks9001 : aseg kS krf kB [] (ksp []) kE9001 [kC9001_0] 30000 (none) = true := by decide +kernel
theorem ks9001_0 : aseg kS krf kB [] (ksp []) kE9001 [kC9001_0] 30000 (some kC9001_0) = true := by decide +kernel
theorem kok9001 : aOK kS krf kB kE9001 := aOK_of kal0 (kcl1 ks9001_0 kcl0) ks9001
/-- ColdShodModel.ideaRather(II)Z -/
def kE9002 : aE := (196, 0, ([(.ofNat 0, .ofNat 5), (.ofNat 0, .ofNat 5)], [], 0, [some (.inr [102]), some (.inl (.inl (.inl (0, .ofNat 0)))), some (.inl (.inl (.inl (1, .ofNat 0))))], []), ([], none), ([(.ofNat 0, .ofNat 1)], [], some (.inl (.inl (.inl (2, .ofNat 0)))), ([], [])), ([], []))
theorem ks9002 : aseg kS krf kB [] (ksp []) kE9002 [] 30000 (none) = true := by decide +kernel
theorem kok9002 : aOK kS krf kB kE9002 := aOK_of kal0 kcl0 ks9002
