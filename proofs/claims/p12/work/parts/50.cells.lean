/-! THE CELLS behind the constructors: shapes, references, bounds. Printed by a program (wip/ai). -/
noncomputable def kS (o : Nat) : Option (Nat × Nat) := bif Nat.blt o 128 then (bif Nat.blt o 64 then (bif Nat.blt o 32 then (bif Nat.blt o 16 then (bif Nat.blt o 8 then (bif Nat.blt o 4 then (bif Nat.blt o 2 then (bif Nat.blt o 1 then some (9, 0) else some (5, 12)) else (bif Nat.blt o 3 then some (5, 12) else some (5, 3))) else (bif Nat.blt o 6 then (bif Nat.blt o 5 then some (5, 8) else some (5, 32)) else (bif Nat.blt o 7 then some (21, 14) else some (12, 11)))) else (bif Nat.blt o 12 then (bif Nat.blt o 10 then some (0, 6) else (bif Nat.blt o 11 then some (2, 8) else some (3, 12))) else (bif Nat.blt o 14 then some (0, 6) else (bif Nat.blt o 15 then some (15, 4) else some (0, 242))))) else (bif Nat.blt o 24 then (bif Nat.blt o 20 then (bif Nat.blt o 18 then (bif Nat.blt o 17 then some (0, 64) else some (15, 4)) else (bif Nat.blt o 19 then some (0, 242) else some (0, 64))) else some (13, 7)) else (bif Nat.blt o 28 then some (13, 7) else some (17, 5)))) else (bif Nat.blt o 48 then (bif Nat.blt o 40 then some (17, 5) else (bif Nat.blt o 44 then (bif Nat.blt o 42 then (bif Nat.blt o 41 then some (16, 3) else some (0, 120)) else (bif Nat.blt o 43 then some (11, 6) else some (0, 40))) else (bif Nat.blt o 46 then some (0, 40) else (bif Nat.blt o 47 then some (0, 40) else some (10, 6))))) else (bif Nat.blt o 56 then (bif Nat.blt o 52 then (bif Nat.blt o 50 then (bif Nat.blt o 49 then some (0, 50) else some (0, 24)) else (bif Nat.blt o 51 then some (14, 4) else some (0, 20))) else (bif Nat.blt o 54 then (bif Nat.blt o 53 then some (19, 7) else some (0, 4)) else some (0, 341))) else (bif Nat.blt o 60 then (bif Nat.blt o 58 then some (0, 341) else (bif Nat.blt o 59 then some (13, 7) else some (20, 5))) else (bif Nat.blt o 62 then some (0, 8) else (bif Nat.blt o 63 then some (2, 8) else some (13, 7))))))) else (bif Nat.blt o 96 then (bif Nat.blt o 80 then (bif Nat.blt o 72 then (bif Nat.blt o 68 then some (13, 7) else (bif Nat.blt o 70 then some (13, 7) else (bif Nat.blt o 71 then some (13, 7) else some (4, 6)))) else (bif Nat.blt o 76 then (bif Nat.blt o 74 then (bif Nat.blt o 73 then some (2, 6) else some (0, 5)) else (bif Nat.blt o 75 then some (2, 8) else some (0, 5))) else (bif Nat.blt o 78 then (bif Nat.blt o 77 then some (18, 5) else some (1, 60)) else (bif Nat.blt o 79 then some (18, 5) else some (1, 60))))) else (bif Nat.blt o 88 then (bif Nat.blt o 84 then (bif Nat.blt o 82 then (bif Nat.blt o 81 then some (18, 5) else some (1, 60)) else (bif Nat.blt o 83 then some (18, 5) else some (1, 60))) else (bif Nat.blt o 86 then (bif Nat.blt o 85 then some (18, 5) else some (1, 60)) else (bif Nat.blt o 87 then some (18, 5) else some (1, 60)))) else some (13, 7))) else (bif Nat.blt o 112 then (bif Nat.blt o 104 then (bif Nat.blt o 100 then some (13, 7) else (bif Nat.blt o 102 then some (13, 7) else (bif Nat.blt o 103 then some (22, 49) else some (0, 104)))) else (bif Nat.blt o 108 then (bif Nat.blt o 106 then some (0, 40) else (bif Nat.blt o 107 then some (0, 40) else some (0, 12))) else (bif Nat.blt o 110 then (bif Nat.blt o 109 then some (0, 12) else some (0, 120)) else (bif Nat.blt o 111 then some (0, 120) else some (0, 6))))) else (bif Nat.blt o 120 then (bif Nat.blt o 116 then (bif Nat.blt o 114 then (bif Nat.blt o 113 then some (0, 7) else some (0, 4)) else some (0, 8)) else (bif Nat.blt o 118 then (bif Nat.blt o 117 then some (0, 8) else some (0, 6)) else some (0, 5))) else (bif Nat.blt o 124 then (bif Nat.blt o 122 then (bif Nat.blt o 121 then some (0, 104) else some (0, 5)) else (bif Nat.blt o 123 then some (0, 50) else some (0, 24))) else (bif Nat.blt o 126 then some (0, 6) else (bif Nat.blt o 127 then some (1, 360) else some (1, 60)))))))) else none
noncomputable def krT (o : Nat) : List (Nat × List Nat) := bif Nat.blt o 128 then (bif Nat.blt o 64 then (bif Nat.blt o 32 then (bif Nat.blt o 16 then (bif Nat.blt o 8 then (bif Nat.blt o 4 then [] else (bif Nat.blt o 6 then [] else (bif Nat.blt o 7 then [(0, [7]), (1, [40]), (2, [42]), (3, [47]), (4, [50]), (5, [52]), (6, [59]), (7, [71]), (8, [72]), (9, [73]), (10, [74]), (11, [75])] else [(0, [8]), (1, [9]), (2, [10]), (3, [11]), (4, [12]), (5, [13]), (9, [14, 17]), (10, [14, 17])]))) else (bif Nat.blt o 12 then (bif Nat.blt o 10 then [] else (bif Nat.blt o 11 then [(0, [20]), (1, [21]), (2, [22]), (3, [23]), (4, [24]), (5, [25]), (6, [26]), (7, [27])] else [(0, [28]), (1, [29]), (2, [30]), (3, [31]), (4, [32]), (5, [33]), (6, [34]), (7, [35]), (8, [36]), (9, [37]), (10, [38]), (11, [39])])) else (bif Nat.blt o 14 then [] else (bif Nat.blt o 15 then [(1, [15]), (3, [16])] else [])))) else (bif Nat.blt o 24 then (bif Nat.blt o 20 then (bif Nat.blt o 18 then (bif Nat.blt o 17 then [] else [(1, [18]), (3, [19])]) else []) else []) else [])) else (bif Nat.blt o 48 then (bif Nat.blt o 40 then [] else (bif Nat.blt o 44 then (bif Nat.blt o 42 then (bif Nat.blt o 41 then [(0, [41])] else []) else (bif Nat.blt o 43 then [(2, [43]), (3, [44]), (4, [45]), (5, [46])] else [])) else (bif Nat.blt o 46 then [] else (bif Nat.blt o 47 then [] else [(0, [48]), (3, [49])])))) else (bif Nat.blt o 56 then (bif Nat.blt o 52 then (bif Nat.blt o 50 then [] else (bif Nat.blt o 51 then [(0, [51])] else [])) else (bif Nat.blt o 54 then (bif Nat.blt o 53 then [(0, [53]), (1, [54]), (2, [55]), (3, [56]), (4, [57]), (5, [58])] else []) else [])) else (bif Nat.blt o 60 then (bif Nat.blt o 58 then [] else (bif Nat.blt o 59 then [] else [(0, [60]), (3, [61]), (4, [62])])) else (bif Nat.blt o 62 then [] else (bif Nat.blt o 63 then [(0, [63]), (1, [64]), (2, [65]), (3, [66]), (4, [67]), (5, [68]), (6, [69]), (7, [70])] else [])))))) else (bif Nat.blt o 96 then (bif Nat.blt o 80 then (bif Nat.blt o 72 then (bif Nat.blt o 68 then [] else (bif Nat.blt o 70 then [] else (bif Nat.blt o 71 then [] else [(0, [76]), (1, [78]), (2, [80]), (3, [82]), (4, [84]), (5, [86])]))) else (bif Nat.blt o 76 then (bif Nat.blt o 74 then (bif Nat.blt o 73 then [(0, [88]), (1, [89]), (2, [90]), (3, [91]), (4, [92]), (5, [93])] else []) else (bif Nat.blt o 75 then [(0, [94]), (1, [95]), (2, [96]), (3, [97]), (4, [98]), (5, [99]), (6, [100]), (7, [101])] else [])) else (bif Nat.blt o 78 then (bif Nat.blt o 77 then [(4, [77])] else []) else (bif Nat.blt o 79 then [(4, [79])] else [])))) else (bif Nat.blt o 88 then (bif Nat.blt o 84 then (bif Nat.blt o 82 then (bif Nat.blt o 81 then [(4, [81])] else []) else (bif Nat.blt o 83 then [(4, [83])] else [])) else (bif Nat.blt o 86 then (bif Nat.blt o 85 then [(4, [85])] else []) else (bif Nat.blt o 87 then [(4, [87])] else []))) else [])) else (bif Nat.blt o 112 then (bif Nat.blt o 104 then (bif Nat.blt o 100 then [] else (bif Nat.blt o 102 then [] else (bif Nat.blt o 103 then [(0, [103]), (1, [104]), (2, [105]), (3, [106]), (9, [107]), (10, [108]), (11, [109]), (13, [110]), (20, [111]), (21, [112]), (26, [113]), (27, [114]), (28, [115]), (31, [116]), (32, [117]), (33, [118]), (34, [119]), (37, [120]), (38, [121]), (40, [122]), (41, [123]), (45, [124]), (46, [125]), (47, [126]), (48, [127])] else []))) else []) else []))) else []
noncomputable def kas : List (Nat × List Nat) → Nat → List Nat
  | [], _ => []
  | (k, l) :: r, j => bif Nat.beq k j then l else kas r j
noncomputable def krf (o k : Nat) : List Nat := kas (krT o) k
noncomputable def kB (o : Nat) : Option ((Int × Int) ⊕ List (Int × Int)) := bif Nat.blt o 128 then (bif Nat.blt o 64 then (bif Nat.blt o 32 then (bif Nat.blt o 16 then (bif Nat.blt o 8 then (bif Nat.blt o 4 then (bif Nat.blt o 2 then (bif Nat.blt o 1 then some (.inl (.negSucc 2147483647, .ofNat 2147483647)) else some (.inr [(.ofNat 5, .ofNat 5), (.ofNat 12, .ofNat 12), (.ofNat 3, .ofNat 3), (.ofNat 5, .ofNat 5), (.ofNat 99, .ofNat 99), (.ofNat 9, .ofNat 9), (.ofNat 1, .ofNat 1), (.ofNat 9, .ofNat 9), (.ofNat 5, .ofNat 5), (.ofNat 9, .ofNat 9), (.ofNat 9, .ofNat 9), (.ofNat 2, .ofNat 2)])) else (bif Nat.blt o 3 then some (.inr [(.ofNat 0, .ofNat 0), (.ofNat 0, .ofNat 0), (.ofNat 0, .ofNat 0), (.ofNat 0, .ofNat 0), (.ofNat 0, .ofNat 0), (.ofNat 0, .ofNat 0), (.ofNat 0, .ofNat 0), (.ofNat 0, .ofNat 0), (.negSucc 0, .negSucc 0), (.ofNat 1, .ofNat 1), (.ofNat 0, .ofNat 0), (.ofNat 0, .ofNat 0)]) else some (.inr [(.ofNat 4, .ofNat 4), (.ofNat 0, .ofNat 0), (.ofNat 3, .ofNat 3)]))) else (bif Nat.blt o 6 then (bif Nat.blt o 5 then some (.inr [(.negSucc 0, .negSucc 0), (.ofNat 0, .ofNat 0), (.ofNat 0, .ofNat 0), (.ofNat 2, .ofNat 2), (.ofNat 1, .ofNat 1), (.ofNat 3, .ofNat 3), (.ofNat 0, .ofNat 0), (.ofNat 4, .ofNat 4)]) else some (.inr [(.ofNat 1, .ofNat 1), (.ofNat 10, .ofNat 10), (.ofNat 11, .ofNat 11), (.ofNat 2, .ofNat 2), (.ofNat 20, .ofNat 20), (.ofNat 0, .ofNat 0), (.ofNat 0, .ofNat 0), (.ofNat 0, .ofNat 0), (.ofNat 0, .ofNat 0), (.ofNat 30, .ofNat 30), (.ofNat 0, .ofNat 0), (.ofNat 0, .ofNat 0), (.ofNat 0, .ofNat 0), (.ofNat 41, .ofNat 41), (.ofNat 40, .ofNat 40), (.ofNat 0, .ofNat 0), (.ofNat 0, .ofNat 0), (.ofNat 0, .ofNat 0), (.ofNat 50, .ofNat 50), (.ofNat 0, .ofNat 0), (.ofNat 0, .ofNat 0), (.ofNat 0, .ofNat 0), (.ofNat 0, .ofNat 0), (.ofNat 60, .ofNat 60), (.ofNat 70, .ofNat 70), (.ofNat 0, .ofNat 0), (.ofNat 0, .ofNat 0), (.ofNat 0, .ofNat 0), (.ofNat 0, .ofNat 0), (.ofNat 80, .ofNat 80), (.ofNat 0, .ofNat 0), (.ofNat 81, .ofNat 81)])) else (bif Nat.blt o 7 then some (.inr [(.negSucc 2147483647, .ofNat 2147483647), (.negSucc 2147483647, .ofNat 2147483647), (.negSucc 2147483647, .ofNat 2147483647), (.negSucc 2147483647, .ofNat 2147483647), (.negSucc 2147483647, .ofNat 2147483647), (.negSucc 2147483647, .ofNat 2147483647), (.negSucc 2147483647, .ofNat 2147483647), (.negSucc 2147483647, .ofNat 2147483647), (.negSucc 2147483647, .ofNat 2147483647), (.negSucc 2147483647, .ofNat 2147483647), (.negSucc 2147483647, .ofNat 2147483647), (.negSucc 2147483647, .ofNat 2147483647), (.negSucc 0, .ofNat 8), (.ofNat 0, .ofNat 4)]) else some (.inr [(.negSucc 2147483647, .ofNat 2147483647), (.negSucc 2147483647, .ofNat 2147483647), (.negSucc 2147483647, .ofNat 2147483647), (.negSucc 2147483647, .ofNat 2147483647), (.negSucc 2147483647, .ofNat 2147483647), (.negSucc 2147483647, .ofNat 2147483647), (.ofNat 0, .ofNat 6), (.ofNat 0, .ofNat 8), (.ofNat 0, .ofNat 12), (.negSucc 2147483647, .ofNat 2147483647), (.negSucc 2147483647, .ofNat 2147483647)])))) else (bif Nat.blt o 12 then (bif Nat.blt o 10 then some (.inl (.negSucc 1999999999, .ofNat 100000000)) else some (.inl (.negSucc 2147483647, .ofNat 2147483647))) else (bif Nat.blt o 14 then some (.inl (.negSucc 2147483647, .ofNat 2147483647)) else (bif Nat.blt o 15 then some (.inr [(.ofNat 0, .ofNat 1), (.negSucc 2147483647, .ofNat 2147483647), (.ofNat 0, .ofNat 242), (.negSucc 2147483647, .ofNat 2147483647)]) else some (.inl (.negSucc 2147483647, .ofNat 2147483647)))))) else (bif Nat.blt o 24 then (bif Nat.blt o 20 then (bif Nat.blt o 18 then (bif Nat.blt o 17 then some (.inl (.negSucc 2147483647, .ofNat 2147483647)) else some (.inr [(.ofNat 0, .ofNat 1), (.negSucc 2147483647, .ofNat 2147483647), (.ofNat 0, .ofNat 242), (.negSucc 2147483647, .ofNat 2147483647)])) else some (.inl (.negSucc 2147483647, .ofNat 2147483647))) else some (.inr [(.negSucc 1999999999, .ofNat 100000000), (.negSucc 1999999999, .ofNat 100000000), (.negSucc 1999999999, .ofNat 100000000), (.negSucc 1999999999, .ofNat 100000000), (.negSucc 1999999999, .ofNat 100000000), (.negSucc 1999999999, .ofNat 100000000), (.negSucc 1999999999, .ofNat 100000000)])) else (bif Nat.blt o 28 then some (.inr [(.negSucc 1999999999, .ofNat 100000000), (.negSucc 1999999999, .ofNat 100000000), (.negSucc 1999999999, .ofNat 100000000), (.negSucc 1999999999, .ofNat 100000000), (.negSucc 1999999999, .ofNat 100000000), (.negSucc 1999999999, .ofNat 100000000), (.negSucc 1999999999, .ofNat 100000000)]) else some (.inr [(.negSucc 2147483647, .ofNat 2147483647), (.negSucc 2147483647, .ofNat 2147483647), (.negSucc 1999999999, .ofNat 100000000), (.negSucc 1999999999, .ofNat 100000000), (.negSucc 1999999999, .ofNat 100000000)])))) else (bif Nat.blt o 48 then (bif Nat.blt o 40 then some (.inr [(.negSucc 2147483647, .ofNat 2147483647), (.negSucc 2147483647, .ofNat 2147483647), (.negSucc 1999999999, .ofNat 100000000), (.negSucc 1999999999, .ofNat 100000000), (.negSucc 1999999999, .ofNat 100000000)]) else (bif Nat.blt o 44 then (bif Nat.blt o 42 then (bif Nat.blt o 41 then some (.inr [(.negSucc 2147483647, .ofNat 2147483647), (.ofNat 0, .ofNat 120), (.ofNat 0, .ofNat 120)]) else some (.inl (.ofNat 0, .ofNat 255))) else (bif Nat.blt o 43 then some (.inr [(.ofNat 0, .ofNat 40), (.negSucc 2147483647, .ofNat 2147483647), (.negSucc 2147483647, .ofNat 2147483647), (.negSucc 2147483647, .ofNat 2147483647), (.negSucc 2147483647, .ofNat 2147483647), (.negSucc 2147483647, .ofNat 2147483647)]) else some (.inl (.negSucc 2147483647, .ofNat 2147483647)))) else (bif Nat.blt o 46 then (bif Nat.blt o 45 then some (.inl (.negSucc 2147483647, .ofNat 2147483647)) else some (.inl (.negSucc 1999999999, .ofNat 100000000))) else (bif Nat.blt o 47 then some (.inl (.negSucc 1999999999, .ofNat 100000000)) else some (.inr [(.negSucc 2147483647, .ofNat 2147483647), (.ofNat 0, .ofNat 50), (.ofNat 0, .ofNat 100), (.negSucc 2147483647, .ofNat 2147483647), (.negSucc 2147483647, .ofNat 2147483647), (.ofNat 0, .ofNat 7)]))))) else (bif Nat.blt o 56 then (bif Nat.blt o 52 then (bif Nat.blt o 50 then (bif Nat.blt o 49 then some (.inl (.ofNat 0, .ofNat 7)) else some (.inl (.negSucc 2147483647, .ofNat 2147483647))) else (bif Nat.blt o 51 then some (.inr [(.negSucc 2147483647, .ofNat 2147483647), (.ofNat 0, .ofNat 20), (.negSucc 2147483647, .ofNat 2147483647), (.negSucc 2147483647, .ofNat 2147483647)]) else some (.inl (.ofNat 0, .ofNat 11)))) else (bif Nat.blt o 54 then (bif Nat.blt o 53 then some (.inr [(.negSucc 2147483647, .ofNat 2147483647), (.negSucc 2147483647, .ofNat 2147483647), (.negSucc 2147483647, .ofNat 2147483647), (.negSucc 2147483647, .ofNat 2147483647), (.negSucc 2147483647, .ofNat 2147483647), (.negSucc 2147483647, .ofNat 2147483647), (.ofNat 0, .ofNat 341)]) else some (.inl (.negSucc 2147483647, .ofNat 2147483647))) else (bif Nat.blt o 55 then some (.inl (.negSucc 2147483647, .ofNat 2147483647)) else some (.inl (.ofNat 0, .ofNat 340))))) else (bif Nat.blt o 60 then (bif Nat.blt o 58 then (bif Nat.blt o 57 then some (.inl (.negSucc 2147483647, .ofNat 2147483647)) else some (.inl (.ofNat 0, .ofNat 4))) else (bif Nat.blt o 59 then some (.inr [(.negSucc 1999999999, .ofNat 100000000), (.negSucc 1999999999, .ofNat 100000000), (.negSucc 1999999999, .ofNat 100000000), (.negSucc 1999999999, .ofNat 100000000), (.negSucc 1999999999, .ofNat 100000000), (.negSucc 1999999999, .ofNat 100000000), (.negSucc 1999999999, .ofNat 100000000)]) else some (.inr [(.negSucc 2147483647, .ofNat 2147483647), (.negSucc 1, .ofNat 8), (.negSucc 2147483647, .ofNat 2147483647), (.negSucc 2147483647, .ofNat 2147483647), (.negSucc 2147483647, .ofNat 2147483647)]))) else (bif Nat.blt o 62 then some (.inl (.negSucc 2147483647, .ofNat 2147483647)) else (bif Nat.blt o 63 then some (.inl (.negSucc 2147483647, .ofNat 2147483647)) else some (.inr [(.negSucc 1999999999, .ofNat 100000000), (.negSucc 1999999999, .ofNat 100000000), (.negSucc 1999999999, .ofNat 100000000), (.negSucc 1999999999, .ofNat 100000000), (.negSucc 1999999999, .ofNat 100000000), (.negSucc 1999999999, .ofNat 100000000), (.negSucc 1999999999, .ofNat 100000000)]))))))) else (bif Nat.blt o 96 then (bif Nat.blt o 80 then (bif Nat.blt o 72 then (bif Nat.blt o 68 then some (.inr [(.negSucc 1999999999, .ofNat 100000000), (.negSucc 1999999999, .ofNat 100000000), (.negSucc 1999999999, .ofNat 100000000), (.negSucc 1999999999, .ofNat 100000000), (.negSucc 1999999999, .ofNat 100000000), (.negSucc 1999999999, .ofNat 100000000), (.negSucc 1999999999, .ofNat 100000000)]) else (bif Nat.blt o 70 then some (.inr [(.negSucc 1999999999, .ofNat 100000000), (.negSucc 1999999999, .ofNat 100000000), (.negSucc 1999999999, .ofNat 100000000), (.negSucc 1999999999, .ofNat 100000000), (.negSucc 1999999999, .ofNat 100000000), (.negSucc 1999999999, .ofNat 100000000), (.negSucc 1999999999, .ofNat 100000000)]) else (bif Nat.blt o 71 then some (.inr [(.negSucc 1999999999, .ofNat 100000000), (.negSucc 1999999999, .ofNat 100000000), (.negSucc 1999999999, .ofNat 100000000), (.negSucc 1999999999, .ofNat 100000000), (.negSucc 1999999999, .ofNat 100000000), (.negSucc 1999999999, .ofNat 100000000), (.negSucc 1999999999, .ofNat 100000000)]) else some (.inl (.negSucc 2147483647, .ofNat 2147483647))))) else (bif Nat.blt o 76 then some (.inl (.negSucc 2147483647, .ofNat 2147483647)) else (bif Nat.blt o 78 then (bif Nat.blt o 77 then some (.inr [(.ofNat 0, .ofNat 2), (.ofNat 0, .ofNat 49), (.ofNat 0, .ofNat 4), (.ofNat 0, .ofNat 60), (.negSucc 2147483647, .ofNat 2147483647)]) else some (.inl (.negSucc 2147483647, .ofNat 2147483647))) else (bif Nat.blt o 79 then some (.inr [(.ofNat 0, .ofNat 2), (.ofNat 0, .ofNat 49), (.ofNat 0, .ofNat 4), (.ofNat 0, .ofNat 60), (.negSucc 2147483647, .ofNat 2147483647)]) else some (.inl (.negSucc 2147483647, .ofNat 2147483647)))))) else (bif Nat.blt o 88 then (bif Nat.blt o 84 then (bif Nat.blt o 82 then (bif Nat.blt o 81 then some (.inr [(.ofNat 0, .ofNat 2), (.ofNat 0, .ofNat 49), (.ofNat 0, .ofNat 4), (.ofNat 0, .ofNat 60), (.negSucc 2147483647, .ofNat 2147483647)]) else some (.inl (.negSucc 2147483647, .ofNat 2147483647))) else (bif Nat.blt o 83 then some (.inr [(.ofNat 0, .ofNat 2), (.ofNat 0, .ofNat 49), (.ofNat 0, .ofNat 4), (.ofNat 0, .ofNat 60), (.negSucc 2147483647, .ofNat 2147483647)]) else some (.inl (.negSucc 2147483647, .ofNat 2147483647)))) else (bif Nat.blt o 86 then (bif Nat.blt o 85 then some (.inr [(.ofNat 0, .ofNat 2), (.ofNat 0, .ofNat 49), (.ofNat 0, .ofNat 4), (.ofNat 0, .ofNat 60), (.negSucc 2147483647, .ofNat 2147483647)]) else some (.inl (.negSucc 2147483647, .ofNat 2147483647))) else (bif Nat.blt o 87 then some (.inr [(.ofNat 0, .ofNat 2), (.ofNat 0, .ofNat 49), (.ofNat 0, .ofNat 4), (.ofNat 0, .ofNat 60), (.negSucc 2147483647, .ofNat 2147483647)]) else some (.inl (.negSucc 2147483647, .ofNat 2147483647))))) else some (.inr [(.negSucc 1999999999, .ofNat 100000000), (.negSucc 1999999999, .ofNat 100000000), (.negSucc 1999999999, .ofNat 100000000), (.negSucc 1999999999, .ofNat 100000000), (.negSucc 1999999999, .ofNat 100000000), (.negSucc 1999999999, .ofNat 100000000), (.negSucc 1999999999, .ofNat 100000000)]))) else (bif Nat.blt o 112 then (bif Nat.blt o 104 then (bif Nat.blt o 100 then some (.inr [(.negSucc 1999999999, .ofNat 100000000), (.negSucc 1999999999, .ofNat 100000000), (.negSucc 1999999999, .ofNat 100000000), (.negSucc 1999999999, .ofNat 100000000), (.negSucc 1999999999, .ofNat 100000000), (.negSucc 1999999999, .ofNat 100000000), (.negSucc 1999999999, .ofNat 100000000)]) else (bif Nat.blt o 102 then some (.inr [(.negSucc 1999999999, .ofNat 100000000), (.negSucc 1999999999, .ofNat 100000000), (.negSucc 1999999999, .ofNat 100000000), (.negSucc 1999999999, .ofNat 100000000), (.negSucc 1999999999, .ofNat 100000000), (.negSucc 1999999999, .ofNat 100000000), (.negSucc 1999999999, .ofNat 100000000)]) else (bif Nat.blt o 103 then some (.inr [(.negSucc 2147483647, .ofNat 2147483647), (.negSucc 2147483647, .ofNat 2147483647), (.negSucc 2147483647, .ofNat 2147483647), (.negSucc 2147483647, .ofNat 2147483647), (.ofNat 0, .ofNat 40), (.ofNat 0, .ofNat 40), (.ofNat 0, .ofNat 6), (.ofNat 0, .ofNat 8), (.ofNat 0, .ofNat 12), (.negSucc 2147483647, .ofNat 2147483647), (.negSucc 2147483647, .ofNat 2147483647), (.negSucc 2147483647, .ofNat 2147483647), (.ofNat 0, .ofNat 120), (.negSucc 2147483647, .ofNat 2147483647), (.negSucc 0, .ofNat 120), (.negSucc 0, .ofNat 0), (.ofNat 0, .ofNat 120), (.ofNat 0, .ofNat 120), (.negSucc 0, .ofNat 120), (.ofNat 0, .ofNat 6), (.negSucc 2147483647, .ofNat 2147483647), (.negSucc 2147483647, .ofNat 2147483647), (.ofNat 0, .ofNat 99), (.ofNat 0, .ofNat 1), (.negSucc 2147483647, .ofNat 2147483647), (.ofNat 0, .ofNat 20), (.negSucc 2147483647, .ofNat 2147483647), (.negSucc 2147483647, .ofNat 2147483647), (.negSucc 2147483647, .ofNat 2147483647), (.negSucc 2147483647, .ofNat 2147483647), (.ofNat 0, .ofNat 8), (.negSucc 2147483647, .ofNat 2147483647), (.negSucc 2147483647, .ofNat 2147483647), (.negSucc 2147483647, .ofNat 2147483647), (.negSucc 2147483647, .ofNat 2147483647), (.ofNat 0, .ofNat 1), (.ofNat 0, .ofNat 8), (.negSucc 2147483647, .ofNat 2147483647), (.negSucc 2147483647, .ofNat 2147483647), (.ofNat 0, .ofNat 50), (.negSucc 2147483647, .ofNat 2147483647), (.negSucc 2147483647, .ofNat 2147483647), (.ofNat 0, .ofNat 100), (.ofNat 0, .ofNat 7), (.negSucc 2147483647, .ofNat 2147483647), (.negSucc 2147483647, .ofNat 2147483647), (.negSucc 2147483647, .ofNat 2147483647), (.negSucc 2147483647, .ofNat 2147483647), (.negSucc 2147483647, .ofNat 2147483647)]) else some (.inr [(.negSucc 0, .ofNat 99), (.negSucc 0, .ofNat 99), (.negSucc 0, .ofNat 99), (.negSucc 0, .ofNat 99), (.negSucc 0, .ofNat 99), (.negSucc 0, .ofNat 99), (.negSucc 0, .ofNat 99), (.negSucc 0, .ofNat 99), (.negSucc 0, .ofNat 99), (.negSucc 0, .ofNat 99), (.negSucc 0, .ofNat 99), (.negSucc 0, .ofNat 99), (.negSucc 0, .ofNat 99), (.negSucc 0, .ofNat 99), (.negSucc 0, .ofNat 99), (.negSucc 0, .ofNat 99), (.negSucc 0, .ofNat 99), (.negSucc 0, .ofNat 99), (.negSucc 0, .ofNat 99), (.negSucc 0, .ofNat 99), (.negSucc 0, .ofNat 99), (.negSucc 0, .ofNat 99), (.negSucc 0, .ofNat 99), (.negSucc 0, .ofNat 99), (.negSucc 0, .ofNat 99), (.negSucc 0, .ofNat 99), (.negSucc 0, .ofNat 99), (.negSucc 0, .ofNat 99), (.negSucc 0, .ofNat 99), (.negSucc 0, .ofNat 99), (.negSucc 0, .ofNat 99), (.negSucc 0, .ofNat 99), (.negSucc 0, .ofNat 99), (.negSucc 0, .ofNat 99), (.negSucc 0, .ofNat 99), (.negSucc 0, .ofNat 99), (.negSucc 0, .ofNat 99), (.negSucc 0, .ofNat 99), (.negSucc 0, .ofNat 99), (.negSucc 0, .ofNat 99), (.negSucc 0, .ofNat 99), (.negSucc 0, .ofNat 99), (.negSucc 0, .ofNat 99), (.negSucc 0, .ofNat 99), (.negSucc 0, .ofNat 99), (.negSucc 0, .ofNat 99), (.negSucc 0, .ofNat 99), (.negSucc 0, .ofNat 99), (.negSucc 0, .ofNat 99), (.negSucc 0, .ofNat 99), (.negSucc 0, .ofNat 99), (.negSucc 0, .ofNat 99), (.negSucc 0, .ofNat 99), (.negSucc 0, .ofNat 99), (.negSucc 0, .ofNat 99), (.negSucc 0, .ofNat 99), (.negSucc 0, .ofNat 99), (.negSucc 0, .ofNat 99), (.negSucc 0, .ofNat 99), (.negSucc 0, .ofNat 99), (.negSucc 0, .ofNat 5), (.negSucc 0, .ofNat 5), (.negSucc 0, .ofNat 5), (.negSucc 0, .ofNat 5), (.negSucc 0, .ofNat 5), (.negSucc 0, .ofNat 5), (.negSucc 0, .ofNat 5), (.negSucc 0, .ofNat 5), (.negSucc 0, .ofNat 99), (.negSucc 0, .ofNat 99), (.negSucc 0, .ofNat 99), (.negSucc 0, .ofNat 99), (.negSucc 0, .ofNat 99), (.negSucc 0, .ofNat 99), (.negSucc 0, .ofNat 99), (.negSucc 0, .ofNat 99), (.negSucc 0, .ofNat 99), (.negSucc 0, .ofNat 99), (.negSucc 0, .ofNat 99), (.negSucc 0, .ofNat 99), (.negSucc 0, .ofNat 99), (.negSucc 0, .ofNat 99), (.negSucc 0, .ofNat 99), (.negSucc 0, .ofNat 99), (.negSucc 0, .ofNat 99), (.negSucc 0, .ofNat 99), (.negSucc 0, .ofNat 99), (.negSucc 0, .ofNat 99), (.negSucc 0, .ofNat 99), (.negSucc 0, .ofNat 99), (.negSucc 0, .ofNat 99), (.negSucc 0, .ofNat 99), (.negSucc 0, .ofNat 99), (.negSucc 0, .ofNat 99), (.negSucc 0, .ofNat 99), (.negSucc 0, .ofNat 99), (.negSucc 0, .ofNat 99), (.negSucc 0, .ofNat 99), (.negSucc 0, .ofNat 99), (.negSucc 0, .ofNat 99), (.negSucc 0, .ofNat 99), (.negSucc 0, .ofNat 99), (.negSucc 0, .ofNat 99), (.negSucc 0, .ofNat 99)])))) else (bif Nat.blt o 108 then (bif Nat.blt o 106 then (bif Nat.blt o 105 then some (.inl (.ofNat 0, .ofNat 103)) else some (.inl (.negSucc 0, .ofNat 99))) else (bif Nat.blt o 107 then some (.inl (.negSucc 0, .ofNat 99)) else some (.inl (.ofNat 0, .ofNat 7)))) else (bif Nat.blt o 110 then (bif Nat.blt o 109 then some (.inl (.ofNat 0, .ofNat 7)) else some (.inl (.ofNat 0, .ofNat 255))) else (bif Nat.blt o 111 then some (.inl (.ofNat 0, .ofNat 255)) else some (.inl (.negSucc 2147483647, .ofNat 2147483647)))))) else (bif Nat.blt o 120 then (bif Nat.blt o 116 then (bif Nat.blt o 114 then (bif Nat.blt o 113 then some (.inl (.negSucc 0, .ofNat 99)) else some (.inl (.ofNat 0, .ofNat 3))) else some (.inl (.ofNat 0, .ofNat 11))) else (bif Nat.blt o 118 then (bif Nat.blt o 117 then some (.inl (.negSucc 0, .ofNat 5)) else some (.inl (.ofNat 0, .ofNat 255))) else (bif Nat.blt o 119 then some (.inl (.ofNat 0, .ofNat 2)) else some (.inl (.negSucc 2147483647, .ofNat 2147483647))))) else (bif Nat.blt o 124 then (bif Nat.blt o 122 then (bif Nat.blt o 121 then some (.inr [(.negSucc 0, .ofNat 99), (.negSucc 0, .ofNat 99), (.negSucc 0, .ofNat 99), (.negSucc 0, .ofNat 99), (.negSucc 0, .ofNat 99), (.negSucc 0, .ofNat 99), (.negSucc 0, .ofNat 99), (.negSucc 0, .ofNat 99), (.negSucc 0, .ofNat 99), (.negSucc 0, .ofNat 99), (.negSucc 0, .ofNat 99), (.negSucc 0, .ofNat 99), (.negSucc 0, .ofNat 99), (.negSucc 0, .ofNat 99), (.negSucc 0, .ofNat 99), (.negSucc 0, .ofNat 99), (.negSucc 0, .ofNat 99), (.negSucc 0, .ofNat 99), (.negSucc 0, .ofNat 99), (.negSucc 0, .ofNat 99), (.negSucc 0, .ofNat 99), (.negSucc 0, .ofNat 99), (.negSucc 0, .ofNat 99), (.negSucc 0, .ofNat 99), (.negSucc 0, .ofNat 99), (.negSucc 0, .ofNat 99), (.negSucc 0, .ofNat 99), (.negSucc 0, .ofNat 99), (.negSucc 0, .ofNat 99), (.negSucc 0, .ofNat 99), (.negSucc 0, .ofNat 99), (.negSucc 0, .ofNat 99), (.negSucc 0, .ofNat 99), (.negSucc 0, .ofNat 99), (.negSucc 0, .ofNat 99), (.negSucc 0, .ofNat 99), (.negSucc 0, .ofNat 99), (.negSucc 0, .ofNat 99), (.negSucc 0, .ofNat 99), (.negSucc 0, .ofNat 99), (.negSucc 0, .ofNat 99), (.negSucc 0, .ofNat 99), (.negSucc 0, .ofNat 99), (.negSucc 0, .ofNat 99), (.negSucc 0, .ofNat 99), (.negSucc 0, .ofNat 99), (.negSucc 0, .ofNat 99), (.negSucc 0, .ofNat 99), (.negSucc 0, .ofNat 99), (.negSucc 0, .ofNat 99), (.negSucc 0, .ofNat 99), (.negSucc 0, .ofNat 99), (.negSucc 0, .ofNat 99), (.negSucc 0, .ofNat 99), (.negSucc 0, .ofNat 99), (.negSucc 0, .ofNat 99), (.negSucc 0, .ofNat 99), (.negSucc 0, .ofNat 99), (.negSucc 0, .ofNat 99), (.negSucc 0, .ofNat 99), (.negSucc 0, .ofNat 5), (.negSucc 0, .ofNat 5), (.negSucc 0, .ofNat 5), (.negSucc 0, .ofNat 5), (.negSucc 0, .ofNat 5), (.negSucc 0, .ofNat 5), (.negSucc 0, .ofNat 5), (.negSucc 0, .ofNat 5), (.negSucc 0, .ofNat 99), (.negSucc 0, .ofNat 99), (.negSucc 0, .ofNat 99), (.negSucc 0, .ofNat 99), (.negSucc 0, .ofNat 99), (.negSucc 0, .ofNat 99), (.negSucc 0, .ofNat 99), (.negSucc 0, .ofNat 99), (.negSucc 0, .ofNat 99), (.negSucc 0, .ofNat 99), (.negSucc 0, .ofNat 99), (.negSucc 0, .ofNat 99), (.negSucc 0, .ofNat 99), (.negSucc 0, .ofNat 99), (.negSucc 0, .ofNat 99), (.negSucc 0, .ofNat 99), (.negSucc 0, .ofNat 99), (.negSucc 0, .ofNat 99), (.negSucc 0, .ofNat 99), (.negSucc 0, .ofNat 99), (.negSucc 0, .ofNat 99), (.negSucc 0, .ofNat 99), (.negSucc 0, .ofNat 99), (.negSucc 0, .ofNat 99), (.negSucc 0, .ofNat 99), (.negSucc 0, .ofNat 99), (.negSucc 0, .ofNat 99), (.negSucc 0, .ofNat 99), (.negSucc 0, .ofNat 99), (.negSucc 0, .ofNat 99), (.negSucc 0, .ofNat 99), (.negSucc 0, .ofNat 99), (.negSucc 0, .ofNat 99), (.negSucc 0, .ofNat 99), (.negSucc 0, .ofNat 99), (.negSucc 0, .ofNat 99)]) else some (.inl (.negSucc 2147483647, .ofNat 2147483647))) else (bif Nat.blt o 123 then some (.inl (.ofNat 0, .ofNat 7)) else some (.inl (.negSucc 2147483647, .ofNat 2147483647)))) else (bif Nat.blt o 126 then (bif Nat.blt o 125 then some (.inl (.negSucc 0, .ofNat 54)) else some (.inl (.ofNat 0, .ofNat 60))) else some (.inl (.negSucc 2147483647, .ofNat 2147483647)))))))) else none
noncomputable def ksp : List (Nat × Nat × Nat × Int × Int × Nat) → Nat → Nat → Option (Nat × Int × Int × Nat)
  | [], _, _ => none
  | (m, p, r) :: l, mi, pc => bif Nat.beq m mi && Nat.beq p pc then some r else ksp l mi pc
theorem kal0 : ∀ e, e ∈ ([] : List aE) → aOK kS krf kB e := fun _ h => by cases h
theorem kal1 {e : aE} {es : List aE} (h : aOK kS krf kB e) (g : ∀ e', e' ∈ es → aOK kS krf kB e') : ∀ e', e' ∈ e :: es → aOK kS krf kB e' := by
  intro e' he
  rcases List.mem_cons.mp he with rfl | he
  · exact h
  · exact g e' he
section KC
variable {es : List aE} {sp : Nat → Nat → Option (Nat × Int × Int × Nat)} {e : aE} {cuts l : List aC} {f : Nat} {c : aC}
theorem kcl0 : ∀ c, c ∈ ([] : List aC) → aseg kS krf kB es sp e cuts f (some c) = true := fun _ h => by cases h
theorem kcl1 (h : aseg kS krf kB es sp e cuts f (some c) = true) (g : ∀ c', c' ∈ l → aseg kS krf kB es sp e cuts f (some c') = true) : ∀ c', c' ∈ c :: l → aseg kS krf kB es sp e cuts f (some c') = true := by
  intro c' hc
  rcases List.mem_cons.mp hc with rfl | hc
  · exact h
  · exact g c' hc
end KC
/-! A CONTRACT whose cuts use contracts of their own each. -/
section AOS
variable {S : Nat → Option (Nat × Nat)} {rf : Nat → Nat → List Nat} {B : aB} {es : List aE} {sp : Nat → Nat → Option (Nat × Int × Int × Nat)} {e : aE} {cuts : List aC} {f : Nat}
theorem acuts_oks (hc : ∀ c, c ∈ cuts → ∃ es, (∀ e', e' ∈ es → aOK S rf B e') ∧ aseg S rf B es sp e cuts f (some c) = true) {E0 : List Int} {h0 : zH} (hn : E0.length = e.2.2.1.1.length) (hsl : ∀ k, e.2.2.2.1.2 = some k → ∃ n : Nat, zget h0.1 0 = some (5, n) ∧ zget E0 k = some (n : Int) ∧ n ≤ 3072) : ∀ (n : Nat) (c : aC), c ∈ cuts → ∀ (E : List Int) (x : zC), (∃ q, E = E0 ++ q) → aRel S rf (aiv B) E c.1 x → aDs E c.2.1.1 → aDrs E x.2.2.2.2.2.1 c.2.1.2 → aFr (aWf e.2.2.2.2.2) h0 x.2.2.2 → aJ x.2.2.2 → (c.2.2.1 + alv E c.2.2.2).toNat < n → zTS e.2.1 [] e.1 x (aPost S rf B e E0 h0)
  | 0, _, _, _, _, _, _, _, _, _, _, h => by omega
  | n + 1, c, hcm, E, x, hE, R, hD, hr, hw, hj, hm => by
    obtain ⟨es, hes, h⟩ := hc c hcm
    unfold aseg at h
    dsimp only at h
    rw [Bool.and_eq_true, Bool.and_eq_true] at h
    obtain ⟨h1, h2, h3⟩ := h
    rw [← hn] at h1
    refine arunY_ok (Es := E) (h0 := h0) hes (fun d X G E' x' l1 r1 r2 r8 r3 r4 r7 => ?_) (fun X w G E' x' u l1 r1 r2 r8 r3 r4 r5 r7 => ?_) f e.2.1 true _ E x [] h1 R hD (fun f hf => by cases hf) (fun f hf => by cases hf) ⟨fun f hf => (by cases hf), hr, fun k hk => by
        obtain ⟨n, s1, s2, s3⟩ := hsl k hk
        obtain ⟨q, hq⟩ := hE
        exact ⟨n, by rw [hw.2.2]; exact s1, by rw [hq]; exact zget_app s2, s3⟩, fun p hp => (by cases hp)⟩ trivial ⟨[], by rw [List.append_nil]⟩ hw hj
    · unfold alfC at l1
      rw [Bool.and_eq_true] at l1
      have ed := Nat.eq_of_beq_eq_true l1.1
      subst ed
      obtain ⟨c', m1, m2⟩ := List.any_eq_true.mp l1.2
      rw [Bool.and_eq_true] at m2
      have m2 := m2.2
      unfold alc1 at m2
      rw [Bool.and_eq_true, Bool.and_eq_true, Bool.and_eq_true] at m2
      obtain ⟨⟨⟨m3, m4⟩, m6⟩, m5⟩ := m2
      dsimp only at m5
      obtain ⟨q', hq'⟩ := r3
      obtain ⟨q, hq⟩ := hE
      have em : ∃ q2, (asgp E0.length c'.1 X).map (aval E') = E0 ++ q2 := by
        unfold asgp
        dsimp only
        rw [List.map_append, hq', hq, List.append_assoc, aid0]
        exact ⟨_, rfl⟩
      have k := ale0_ok r1.1 r2 m5
      rw [alng_ok, alsg_ok] at k
      have z : alv E' ([] : aLn) = 0 := rfl
      rw [z] at k
      have hx : alv E' c.2.2.2 = alv E c.2.2.2 := by
        rw [hq']
        exact alv_ext (by rw [R.1.1]; exact h3)
      rw [hx] at k
      obtain ⟨es', hes', h'⟩ := hc c' m1
      unfold aseg at h'
      dsimp only at h'
      rw [Bool.and_eq_true, Bool.and_eq_true] at h'
      have R' := ameet_ok r1 m3
      have D' := adsM_ok r1.1 r2 m4
      have k2 := ale0_ok R'.1 D' h'.2.1
      rw [alng_ok] at k2
      have z2 : alv ((asgp E0.length c'.1 X).map (aval E')) ([] : aLn) = 0 := rfl
      rw [z2] at k2
      exact acuts_oks hc hn hsl n c' m1 _ x' em R' D' (adrM_ok r1.1 r8 m6) r4 r7 (by dsimp only at k k2; omega)
    · obtain ⟨q', hq'⟩ := r4
      obtain ⟨q, hq⟩ := hE
      exact alr_ok (q := q ++ q') l1 r1 r2 r8 r3 (by rw [hq', hq, List.append_assoc]) r5 r7
theorem aOK_ofs (hes : ∀ e', e' ∈ es → aOK S rf B e') (hc : ∀ c, c ∈ cuts → ∃ es, (∀ e', e' ∈ es → aOK S rf B e') ∧ aseg S rf B es sp e cuts f (some c) = true) (h : aseg S rf B es sp e cuts f none = true) : aOK S rf B e := by
  intro E x R hD hsl hj
  unfold aseg at h
  dsimp only at h
  have hn : E.length = e.2.2.1.1.length := R.1.1
  rw [← hn] at h
  refine arunY_ok (Es := E) (h0 := x.2.2.2) hes (fun d X G E' x' l1 r1 r2 r8 r3 r4 r7 => ?_) (fun X w G E' x' u l1 r1 r2 r8 r3 r4 r5 r7 => ?_) f e.2.1 true _ E x [] h R hD (fun f hf => by cases hf) (fun f hf => by cases hf) ⟨fun f hf => (by cases hf), fun f hf => (by cases hf), hsl, fun p hp => (by cases hp)⟩ trivial ⟨[], by rw [List.append_nil]⟩ aFr_refl hj
  · unfold alfC at l1
    rw [Bool.and_eq_true] at l1
    have ed := Nat.eq_of_beq_eq_true l1.1
    subst ed
    obtain ⟨c', m1, m2⟩ := List.any_eq_true.mp l1.2
    rw [Bool.and_eq_true] at m2
    have m2 := m2.2
    unfold alc1 at m2
    rw [Bool.and_eq_true, Bool.and_eq_true, Bool.and_eq_true] at m2
    obtain ⟨⟨⟨m3, m4⟩, m6⟩, m5⟩ := m2
    obtain ⟨q', hq'⟩ := r3
    have em : ∃ q2, (asgp E.length c'.1 X).map (aval E') = E ++ q2 := by
      unfold asgp
      dsimp only
      rw [List.map_append, hq', aid0]
      exact ⟨_, rfl⟩
    exact acuts_oks hc hn hsl _ c' m1 _ x' em (ameet_ok r1 m3) (adsM_ok r1.1 r2 m4) (adrM_ok r1.1 r8 m6) r4 r7 (Nat.lt_succ_self _)
  · obtain ⟨q', hq'⟩ := r4
    exact alr_ok (q := q') l1 r1 r2 r8 r3 hq' r5 r7
end AOS
section KCS
variable {es : List aE} {sp : Nat → Nat → Option (Nat × Int × Int × Nat)} {e : aE} {cuts l : List aC} {f : Nat} {c : aC}
theorem kcs0 : ∀ c, c ∈ ([] : List aC) → ∃ es, (∀ e', e' ∈ es → aOK kS krf kB e') ∧ aseg kS krf kB es sp e cuts f (some c) = true := fun _ h => by cases h
theorem kcs1 (k : ∀ e', e' ∈ es → aOK kS krf kB e') (h : aseg kS krf kB es sp e cuts f (some c) = true) (g : ∀ c', c' ∈ l → ∃ es, (∀ e', e' ∈ es → aOK kS krf kB e') ∧ aseg kS krf kB es sp e cuts f (some c') = true) : ∀ c', c' ∈ c :: l → ∃ es, (∀ e', e' ∈ es → aOK kS krf kB e') ∧ aseg kS krf kB es sp e cuts f (some c') = true := by
  intro c' hc
  rcases List.mem_cons.mp hc with rfl | hc
  · exact ⟨es, k, h⟩
  · exact g c' hc
end KCS
/-! BY HAND: undo, redo (the reference's), with what holds of rows 104 .. 106. -/
theorem zT_stp {d mi pc : Nat} {lo : List (Option Value)} {st : List Value} {h : zH} {y : zC} {e : zI} {P : Option Value → zH → Prop} (hi : zi mi pc = some e) (hs : zstep e (pc, lo, st, h) = some (.inl y)) (hk : zT d mi y P) : zT d mi (pc, lo, st, h) P := zT_step hi hs hk
theorem zT_rtn {d mi pc : Nat} {lo : List (Option Value)} {st : List Value} {h : zH} {e : zI} {P : Option Value → zH → Prop} {r : Option Value} (hi : zi mi pc = some e) (hs : zstep e (pc, lo, st, h) = some (.inr (.inr r))) (hp : P r h) : zT d mi (pc, lo, st, h) P := zT_ret hi hs hp
section HD
variable {S1 : List (Nat × Nat)} {f : Nat → Nat → Int32} {g : Nat → Nat → Int64} {r : Nat → Nat → Option Nat} {pc len b n o q : Nat} {lo : List (Option Value)} {st : List Value} {x i : Int32}
theorem hgi (h0 : zget S1 102 = some (22, 49)) (hb : Nat.blt b 49 = true) : zs20 len 12 b 0 (pc, lo, .ref 102 :: st, (S1, f, g, r)) = some (.inl (pc + len, lo, .int (f 102 b) :: st, (S1, f, g, r))) := by
  simp only [zs20]
  rw [h0]
  dsimp only
  rw [hb]
  rfl
theorem hgr (h0 : zget S1 102 = some (22, 49)) (hb : Nat.blt b 49 = true) (hq : r 102 b = some q) : zs20 len 12 b 1 (pc, lo, .ref 102 :: st, (S1, f, g, r)) = some (.inl (pc + len, lo, .ref q :: st, (S1, f, g, r))) := by
  simp only [zs20]
  rw [h0]
  dsimp only
  rw [hb, hq]
  rfl
theorem hpi (h0 : zget S1 102 = some (22, 49)) (hb : Nat.blt b 49 = true) : zs21 len 12 b 0 (pc, lo, .int x :: .ref 102 :: st, (S1, f, g, r)) = some (.inl (pc + len, lo, st, (S1, zup f 102 b x, g, r))) := by
  simp only [zs21]
  rw [h0]
  dsimp only
  rw [hb]
  rfl
theorem hil (h0 : zget S1 o = some (0, n)) (hi : Nat.blt (zix i) n = true) : zs22 len (pc, lo, .int i :: .ref o :: st, (S1, f, g, r)) = some (.inl (pc + len, lo, .int (f o (zix i)) :: st, (S1, f, g, r))) := by
  simp only [zs22]
  rw [h0]
  dsimp only
  rw [hi]
  rfl
theorem his (h0 : zget S1 o = some (0, n)) (hi : Nat.blt (zix i) n = true) : zs25 len (pc, lo, .int x :: .int i :: .ref o :: st, (S1, f, g, r)) = some (.inl (pc + len, lo, st, (S1, zup f o (zix i) x, g, r))) := by
  simp only [zs25]
  rw [h0]
  dsimp only
  rw [hi]
  rfl
theorem href (h : aRf krf r) (hk : krf 102 b = [q]) : r 102 b = some q := by
  obtain ⟨q', e1, e2⟩ := h 102 b (by rw [hk]; exact List.cons_ne_nil _ _)
  rw [hk] at e2
  rw [e1, List.mem_singleton.mp e2]
end HD
theorem hmay1 : (List.range 104).all (fun k => bif Nat.ble 60 k && Nat.ble k 67 then ieq (aiv kB 103 k).1 (-1) && ieq (aiv kB 103 k).2 5 else ieq (aiv kB 103 k).1 (-1) && ieq (aiv kB 103 k).2 99) = true := by decide +kernel
theorem hmay {k : Nat} (hk : k < 104) : (60 ≤ k → k ≤ 67 → aiv kB 103 k = (-1, 5)) ∧ (k < 60 ∨ 67 < k → aiv kB 103 k = (-1, 99)) := by
  have h := List.all_eq_true.mp hmay1 k (List.mem_range.mpr hk)
  cases hc : (Nat.ble 60 k && Nat.ble k 67)
  · rw [hc] at h
    dsimp only [cond_false] at h
    rw [Bool.and_eq_true, ieq_eq, ieq_eq] at h
    refine ⟨fun a b => ?_, fun _ => Prod.ext h.1 h.2⟩
    have c1 : Nat.ble 60 k = true := by rw [Nat.ble_eq]; exact a
    have c2 : Nat.ble k 67 = true := by rw [Nat.ble_eq]; exact b
    rw [c1, c2] at hc
    cases hc
  · rw [hc] at h
    dsimp only [cond_true] at h
    rw [Bool.and_eq_true, ieq_eq, ieq_eq] at h
    rw [Bool.and_eq_true, Nat.ble_eq, Nat.ble_eq] at hc
    exact ⟨fun _ _ => Prod.ext h.1 h.2, fun q => by omega⟩
/-- a number that a change may lay back -/
theorem hlay {f : Nat → Nat → Int32} {k : Nat} {v : Int32} (hb : ∀ o k, (aiv kB o k).1 ≤ (f o k).toInt ∧ (f o k).toInt ≤ (aiv kB o k).2) (hm : 60 ≤ (f 104 k).toInt → (f 104 k).toInt ≤ 67 → v.toInt ≤ 5) (h1 : -1 ≤ v.toInt) (h2 : v.toInt ≤ 99) : Nat.blt (zix (f 104 k)) 104 = true ∧ (aiv kB 103 (zix (f 104 k))).1 ≤ v.toInt ∧ v.toInt ≤ (aiv kB 103 (zix (f 104 k))).2 := by
  have b0 := hb 104 k
  have e0 : aiv kB 104 k = (0, 103) := rfl
  rw [e0] at b0
  dsimp only at b0
  have z := azix (i := f 104 k) b0.1
  have hk : zix (f 104 k) < 104 := by omega
  refine ⟨by rw [Nat.blt_eq]; exact hk, ?_⟩
  obtain ⟨m1, m2⟩ := hmay hk
  by_cases c : 60 ≤ zix (f 104 k) ∧ zix (f 104 k) ≤ 67
  · rw [m1 c.1 c.2]
    have := hm (by omega) (by omega)
    dsimp only
    omega
  · rw [m2 (by omega)]
    dsimp only
    omega
noncomputable def hundoE : aE := (149, 0, ([], [], 0, [some (.inr [102])], []), ([], none), ([(.negSucc 4, .ofNat 40)], [], some (.inl (.inl (.inl (0, .ofNat 0)))), ([], [])), ([(102, 5)], [103]))
theorem hlo1 {lo : List (Option Value)} {E : List Int} {al : aV} (h : aLo E lo [some al]) : ∃ v, lo = [some v] ∧ aVs E v al := by
  obtain ⟨v, h1, h2⟩ := h.2 0 al rfl
  match lo, h.1, h1 with
  | [a], _, h1 =>
    cases h1
    exact ⟨v, rfl, h2⟩
theorem hupb {f : Nat → Nat → Int32} {o k : Nat} {x : Int32} (hb : ∀ o k, (aiv kB o k).1 ≤ (f o k).toInt ∧ (f o k).toInt ≤ (aiv kB o k).2) (h1 : (aiv kB o k).1 ≤ x.toInt) (h2 : x.toInt ≤ (aiv kB o k).2) : ∀ o' k', (aiv kB o' k').1 ≤ (zup f o k x o' k').toInt ∧ (zup f o k x o' k').toInt ≤ (aiv kB o' k').2 := by
  intro o' k'
  by_cases hq : o' = o ∧ k' = k
  · obtain ⟨rfl, rfl⟩ := hq
    rw [zsame_up]
    exact ⟨h1, h2⟩
  · rw [zne_up hq]
    exact hb o' k'
theorem hJ_of {S1 : List (Nat × Nat)} {f f' : Nat → Nat → Int32} {g : Nat → Nat → Int64} {r : Nat → Nat → Option Nat} (hj : aJ (S1, f, g, r)) (h5 : (f' 102 5).toInt ≤ (f' 102 4).toInt) (e4 : ∀ k, f' 104 k = f 104 k) (e5 : ∀ k, f' 105 k = f 105 k) (e6 : ∀ k, f' 106 k = f 106 k) : aJ (S1, f', g, r) := by
  refine ⟨h5, fun k hk => ?_⟩
  show 60 ≤ (f' 104 k).toInt → (f' 104 k).toInt ≤ 67 → (f' 105 k).toInt ≤ 5 ∧ (f' 106 k).toInt ≤ 5
  rw [e4, e5, e6]
  exact hj.2 k hk
theorem hand_undo : aOK kS krf kB hundoE := by
  intro E x R hD hsl hj
  obtain ⟨pc, lo, st, S1, f, g, r⟩ := x
  obtain ⟨hs, hpc, hl, hst, hh⟩ := R
  have hpc : 0 = pc := hpc
  subst hpc
  obtain ⟨v, rfl, o, rfl, ho⟩ := hlo1 hl
  have ho := List.mem_singleton.mp ho
  subst ho
  have est : st = [] := by
    cases st with
    | nil => rfl
    | cons _ _ => exact hst.elim
  subst est
  have eE : E = [] := List.eq_nil_of_length_eq_zero hs.1
  subst eE
  have h0 : zget S1 102 = some (22, 49) := hh.1.1 102 22 49 rfl rfl
  have h103 : zget S1 103 = some (0, 104) := hh.1.1 103 0 104 rfl rfl
  have h104 : zget S1 104 = some (0, 40) := hh.1.1 104 0 40 rfl rfl
  have h105 : zget S1 105 = some (0, 40) := hh.1.1 105 0 40 rfl rfl
  have q0 : r 102 0 = some 103 := href hh.1.2.1 rfl
  have q1 : r 102 1 = some 104 := href hh.1.2.1 rfl
  have q2 : r 102 2 = some 105 := href hh.1.2.1 rfl
  have hb := hh.1.2.2
  dsimp only at hb
  have bd := hb 102 5
  rw [show aiv kB 102 5 = (0, 40) from rfl] at bd
  dsimp only at bd
  have hj1 : (f 102 5).toInt ≤ (f 102 4).toInt := hj.1
  show zT 0 149 (0, [some (.ref 102)], [], (S1, f, g, r)) (aPost kS krf kB hundoE [] (S1, f, g, r))
  refine zT_stp (pc := 0) (e := (3, 1, 0, 0, 0, .null, [])) rfl rfl ?_
  refine zT_stp (pc := 1) (e := (20, 3, 12, 5, 0, .null, [(0, 1056)])) rfl (hgi h0 rfl) ?_
  by_cases hz : f 102 5 = 0
  · refine zT_stp (pc := 4) (e := (15, 3, 10, 1, 0, .null, [])) (y := (7, [some (.ref 102)], [], (S1, f, g, r))) rfl ?_ ?_
    · show some (Sum.inl (zif 1 (f 102 5) 10 7, _, _, _)) = _
      rw [hz]
      rfl
    refine zT_stp (pc := 7) (e := (0, 2, 0, 0, 0, .int (-5), [])) rfl rfl ?_
    refine zT_rtn (pc := 9) (e := (35, 1, 0, 0, 0, .null, [])) rfl rfl ?_
    exact ⟨[-5], ⟨rfl, fun k w q h1 h2 => by
      match k, h1, h2 with
      | 0, h1, h2 =>
        cases h1
        cases h2
        decide⟩, ⟨_, rfl, -5, rfl, rfl⟩, ⟨hh.1, fun o k a ha => by cases ha⟩, fun f hf => (by cases hf), fun f hf => (by cases hf), aFr_refl, hj⟩
  · have z0 : (0 : Int32).toInt = 0 := rfl
    have z1 : (1 : Int32).toInt = 1 := rfl
    have d0 : (f 102 5).toInt ≠ 0 := fun w => hz (Int32.toInt_inj.mp (by rw [w, z0]))
    have ed : (f 102 5 - 1).toInt = (f 102 5).toInt - 1 := by
      rw [na_sub (by rw [z1]; omega) (by rw [z1]; omega), z1]
    have zd := azix (i := f 102 5 - 1) (by omega)
    refine zT_stp (pc := 4) (e := (15, 3, 10, 1, 0, .null, [])) (y := (10, [some (.ref 102)], [], (S1, f, g, r))) rfl ?_ ?_
    · show some (Sum.inl (zif 1 (f 102 5) 10 7, _, _, _)) = _
      rw [show zif 1 (f 102 5) 10 7 = 10 from if_neg hz]
    refine zT_stp (pc := 10) (e := (3, 1, 0, 0, 0, .null, [])) rfl rfl ?_
    refine zT_stp (pc := 11) (e := (39, 1, 0, 0, 0, .null, [])) rfl rfl ?_
    refine zT_stp (pc := 12) (e := (20, 3, 12, 5, 0, .null, [(0, 1056)])) rfl (hgi h0 rfl) ?_
    refine zT_stp (pc := 15) (e := (0, 1, 0, 0, 0, .int 1, [])) rfl rfl ?_
    refine zT_stp (pc := 16) (e := (7, 1, 0, 1, 0, .null, [])) rfl rfl ?_
    refine zT_stp (pc := 17) (e := (21, 3, 12, 5, 0, .null, [(0, 1056)])) rfl (hpi h0 rfl) ?_
    have e1 : zbin 1 (f 102 5) 1 = f 102 5 - 1 := rfl
    rw [e1]
    refine zT_stp (pc := 20) (e := (3, 1, 0, 0, 0, .null, [])) rfl rfl ?_
    refine zT_stp (pc := 21) (e := (20, 3, 12, 0, 1, .null, [(0, 1030)])) rfl (hgr h0 rfl q0) ?_
    refine zT_stp (pc := 24) (e := (3, 1, 0, 0, 0, .null, [])) rfl rfl ?_
    refine zT_stp (pc := 25) (e := (20, 3, 12, 1, 1, .null, [(0, 1031)])) rfl (hgr h0 rfl q1) ?_
    refine zT_stp (pc := 28) (e := (3, 1, 0, 0, 0, .null, [])) rfl rfl ?_
    refine zT_stp (pc := 29) (e := (20, 3, 12, 5, 0, .null, [(0, 1056)])) rfl (hgi h0 rfl) ?_
    rw [zsame_up]
    have i1 : Nat.blt (zix (f 102 5 - 1)) 40 = true := by rw [Nat.blt_eq]; omega
    refine zT_stp (pc := 32) (e := (22, 1, 0, 0, 0, .null, [])) rfl (hil h104 i1) ?_
    rw [zne_up (show ¬ (104 = 102 ∧ zix (f 102 5 - 1) = 5) by omega)]
    refine zT_stp (pc := 33) (e := (3, 1, 0, 0, 0, .null, [])) rfl rfl ?_
    refine zT_stp (pc := 34) (e := (20, 3, 12, 2, 1, .null, [(0, 1032)])) rfl (hgr h0 rfl q2) ?_
    refine zT_stp (pc := 37) (e := (3, 1, 0, 0, 0, .null, [])) rfl rfl ?_
    refine zT_stp (pc := 38) (e := (20, 3, 12, 5, 0, .null, [(0, 1056)])) rfl (hgi h0 rfl) ?_
    rw [zsame_up]
    refine zT_stp (pc := 41) (e := (22, 1, 0, 0, 0, .null, [])) rfl (hil h105 i1) ?_
    rw [zne_up (show ¬ (105 = 102 ∧ zix (f 102 5 - 1) = 5) by omega)]
    have bw := hb 105 (zix (f 102 5 - 1))
    rw [show aiv kB 105 (zix (f 102 5 - 1)) = (-1, 99) from rfl] at bw
    dsimp only at bw
    have hk40 : zix (f 102 5 - 1) < 40 := by omega
    obtain ⟨l1, l2, l3⟩ := hlay (v := f 105 (zix (f 102 5 - 1))) hb (fun a b => (hj.2 _ hk40 a b).1) bw.1 bw.2
    refine zT_stp (pc := 42) (e := (25, 1, 0, 0, 0, .null, [])) rfl (his h103 l1) ?_
    refine zT_stp (pc := 43) (e := (3, 1, 0, 0, 0, .null, [])) rfl rfl ?_
    refine zT_stp (pc := 44) (e := (20, 3, 12, 5, 0, .null, [(0, 1056)])) rfl (hgi h0 rfl) ?_
    rw [zne_up (show ¬ (102 = 103 ∧ 5 = zix (f 104 (zix (f 102 5 - 1)))) by omega), zsame_up]
    refine zT_rtn (pc := 47) (e := (35, 1, 0, 0, 0, .null, [])) rfl rfl ?_
    refine ⟨[(f 102 5 - 1).toInt], ⟨rfl, fun k w q h1 h2 => ?_⟩, ⟨_, rfl, _, rfl, (Int.add_zero _).symm⟩, ⟨⟨hh.1.1, hh.1.2.1, ?_⟩, fun o k a ha => by cases ha⟩, fun f hf => (by cases hf), fun f hf => (by cases hf), ⟨fun o k hw => ?_, fun _ => rfl, rfl⟩, ?_⟩
    · match k, h1, h2 with
      | 0, h1, h2 =>
        cases h1
        cases h2
        show (Int.negSucc 4 : Int) ≤ _ ∧ _ ≤ (Int.ofNat 40 : Int)
        simp only [Int.negSucc_eq, Int.ofNat_eq_natCast]
        omega
    · refine hupb (hupb hb ?_ ?_) l2 l3
      · rw [show aiv kB 102 5 = (0, 40) from rfl]
        dsimp only
        omega
      · rw [show aiv kB 102 5 = (0, 40) from rfl]
        dsimp only
        omega
    · dsimp only
      rw [zne_up (fun q => by rw [q.1] at hw; cases hw), zne_up (fun q => by rw [q.1, q.2] at hw; cases hw)]
    · refine hJ_of hj ?_ (fun k => ?_) (fun k => ?_) (fun k => ?_)
      · rw [zne_up (by omega), zsame_up, zne_up (by omega), zne_up (by omega)]
        omega
      · rw [zne_up (by omega), zne_up (by omega)]
      · rw [zne_up (by omega), zne_up (by omega)]
      · rw [zne_up (by omega), zne_up (by omega)]
noncomputable def hredoE : aE := (150, 0, ([], [], 0, [some (.inr [102])], []), ([], none), ([(.negSucc 4, .ofNat 40)], [], some (.inl (.inl (.inl (0, .ofNat 0)))), ([], [])), ([(102, 5)], [103]))
theorem hand_redo : aOK kS krf kB hredoE := by
  intro E x R hD hsl hj
  obtain ⟨pc, lo, st, S1, f, g, r⟩ := x
  obtain ⟨hs, hpc, hl, hst, hh⟩ := R
  have hpc : 0 = pc := hpc
  subst hpc
  obtain ⟨v, rfl, o, rfl, ho⟩ := hlo1 hl
  have ho := List.mem_singleton.mp ho
  subst ho
  have est : st = [] := by
    cases st with
    | nil => rfl
    | cons _ _ => exact hst.elim
  subst est
  have eE : E = [] := List.eq_nil_of_length_eq_zero hs.1
  subst eE
  have h0 : zget S1 102 = some (22, 49) := hh.1.1 102 22 49 rfl rfl
  have h103 : zget S1 103 = some (0, 104) := hh.1.1 103 0 104 rfl rfl
  have h104 : zget S1 104 = some (0, 40) := hh.1.1 104 0 40 rfl rfl
  have h106 : zget S1 106 = some (0, 40) := hh.1.1 106 0 40 rfl rfl
  have q0 : r 102 0 = some 103 := href hh.1.2.1 rfl
  have q1 : r 102 1 = some 104 := href hh.1.2.1 rfl
  have q3 : r 102 3 = some 106 := href hh.1.2.1 rfl
  have hb := hh.1.2.2
  dsimp only at hb
  have bd := hb 102 5
  rw [show aiv kB 102 5 = (0, 40) from rfl] at bd
  dsimp only at bd
  have hj1 : (f 102 5).toInt ≤ (f 102 4).toInt := hj.1
  have bk := hb 102 4
  rw [show aiv kB 102 4 = (0, 40) from rfl] at bk
  dsimp only at bk
  show zT 0 150 (0, [some (.ref 102)], [], (S1, f, g, r)) (aPost kS krf kB hredoE [] (S1, f, g, r))
  refine zT_stp (pc := 0) (e := (3, 1, 0, 0, 0, .null, [])) rfl rfl ?_
  refine zT_stp (pc := 1) (e := (20, 3, 12, 5, 0, .null, [(0, 1056)])) rfl (hgi h0 rfl) ?_
  refine zT_stp (pc := 4) (e := (3, 1, 0, 0, 0, .null, [])) rfl rfl ?_
  refine zT_stp (pc := 5) (e := (20, 3, 12, 4, 0, .null, [(0, 1057)])) rfl (hgi h0 rfl) ?_
  by_cases hz : f 102 5 = f 102 4
  · refine zT_stp (pc := 8) (e := (16, 3, 14, 1, 0, .null, [])) (y := (11, [some (.ref 102)], [], (S1, f, g, r))) rfl ?_ ?_
    · show some (Sum.inl (zicmp 1 (f 102 5) (f 102 4) 14 11, _, _, _)) = _
      rw [show zicmp 1 (f 102 5) (f 102 4) 14 11 = 11 from if_pos hz]
    refine zT_stp (pc := 11) (e := (0, 2, 0, 0, 0, .int (-5), [])) rfl rfl ?_
    refine zT_rtn (pc := 13) (e := (35, 1, 0, 0, 0, .null, [])) rfl rfl ?_
    exact ⟨[-5], ⟨rfl, fun k w q h1 h2 => by
      match k, h1, h2 with
      | 0, h1, h2 =>
        cases h1
        cases h2
        decide⟩, ⟨_, rfl, -5, rfl, rfl⟩, ⟨hh.1, fun o k a ha => by cases ha⟩, fun f hf => (by cases hf), fun f hf => (by cases hf), aFr_refl, hj⟩
  · have z1 : (1 : Int32).toInt = 1 := rfl
    have d0 : (f 102 5).toInt ≠ (f 102 4).toInt := fun w => hz (Int32.toInt_inj.mp w)
    have ed : (f 102 5 + 1).toInt = (f 102 5).toInt + 1 := by
      rw [na_add (by rw [z1]; omega) (by rw [z1]; omega), z1]
    have zd := azix (i := f 102 5) (by omega)
    refine zT_stp (pc := 8) (e := (16, 3, 14, 1, 0, .null, [])) (y := (14, [some (.ref 102)], [], (S1, f, g, r))) rfl ?_ ?_
    · show some (Sum.inl (zicmp 1 (f 102 5) (f 102 4) 14 11, _, _, _)) = _
      rw [show zicmp 1 (f 102 5) (f 102 4) 14 11 = 14 from if_neg hz]
    refine zT_stp (pc := 14) (e := (3, 1, 0, 0, 0, .null, [])) rfl rfl ?_
    refine zT_stp (pc := 15) (e := (20, 3, 12, 0, 1, .null, [(0, 1030)])) rfl (hgr h0 rfl q0) ?_
    refine zT_stp (pc := 18) (e := (3, 1, 0, 0, 0, .null, [])) rfl rfl ?_
    refine zT_stp (pc := 19) (e := (20, 3, 12, 1, 1, .null, [(0, 1031)])) rfl (hgr h0 rfl q1) ?_
    refine zT_stp (pc := 22) (e := (3, 1, 0, 0, 0, .null, [])) rfl rfl ?_
    refine zT_stp (pc := 23) (e := (20, 3, 12, 5, 0, .null, [(0, 1056)])) rfl (hgi h0 rfl) ?_
    have i1 : Nat.blt (zix (f 102 5)) 40 = true := by rw [Nat.blt_eq]; omega
    refine zT_stp (pc := 26) (e := (22, 1, 0, 0, 0, .null, [])) rfl (hil h104 i1) ?_
    refine zT_stp (pc := 27) (e := (3, 1, 0, 0, 0, .null, [])) rfl rfl ?_
    refine zT_stp (pc := 28) (e := (20, 3, 12, 3, 1, .null, [(0, 1033)])) rfl (hgr h0 rfl q3) ?_
    refine zT_stp (pc := 31) (e := (3, 1, 0, 0, 0, .null, [])) rfl rfl ?_
    refine zT_stp (pc := 32) (e := (20, 3, 12, 5, 0, .null, [(0, 1056)])) rfl (hgi h0 rfl) ?_
    refine zT_stp (pc := 35) (e := (22, 1, 0, 0, 0, .null, [])) rfl (hil h106 i1) ?_
    have bw := hb 106 (zix (f 102 5))
    rw [show aiv kB 106 (zix (f 102 5)) = (-1, 99) from rfl] at bw
    dsimp only at bw
    have hk40 : zix (f 102 5) < 40 := by omega
    obtain ⟨l1, l2, l3⟩ := hlay (v := f 106 (zix (f 102 5))) hb (fun a b => (hj.2 _ hk40 a b).2) bw.1 bw.2
    refine zT_stp (pc := 36) (e := (25, 1, 0, 0, 0, .null, [])) rfl (his h103 l1) ?_
    refine zT_stp (pc := 37) (e := (3, 1, 0, 0, 0, .null, [])) rfl rfl ?_
    refine zT_stp (pc := 38) (e := (39, 1, 0, 0, 0, .null, [])) rfl rfl ?_
    refine zT_stp (pc := 39) (e := (20, 3, 12, 5, 0, .null, [(0, 1056)])) rfl (hgi h0 rfl) ?_
    rw [zne_up (show ¬ (102 = 103 ∧ 5 = zix (f 104 (zix (f 102 5)))) by omega)]
    refine zT_stp (pc := 42) (e := (0, 1, 0, 0, 0, .int 1, [])) rfl rfl ?_
    refine zT_stp (pc := 43) (e := (7, 1, 0, 0, 0, .null, [])) rfl rfl ?_
    refine zT_stp (pc := 44) (e := (21, 3, 12, 5, 0, .null, [(0, 1056)])) rfl (hpi h0 rfl) ?_
    have e1 : zbin 0 (f 102 5) 1 = f 102 5 + 1 := rfl
    rw [e1]
    refine zT_stp (pc := 47) (e := (3, 1, 0, 0, 0, .null, [])) rfl rfl ?_
    refine zT_stp (pc := 48) (e := (20, 3, 12, 4, 0, .null, [(0, 1057)])) rfl (hgi h0 rfl) ?_
    rw [zne_up (show ¬ (102 = 102 ∧ 4 = 5) by omega), zne_up (show ¬ (102 = 103 ∧ 4 = zix (f 104 (zix (f 102 5)))) by omega)]
    refine zT_stp (pc := 51) (e := (3, 1, 0, 0, 0, .null, [])) rfl rfl ?_
    refine zT_stp (pc := 52) (e := (20, 3, 12, 5, 0, .null, [(0, 1056)])) rfl (hgi h0 rfl) ?_
    rw [zsame_up]
    refine zT_stp (pc := 55) (e := (7, 1, 0, 1, 0, .null, [])) rfl rfl ?_
    have e2 : zbin 1 (f 102 4) (f 102 5 + 1) = f 102 4 - (f 102 5 + 1) := rfl
    rw [e2]
    have ee : (f 102 4 - (f 102 5 + 1)).toInt = (f 102 4).toInt - ((f 102 5).toInt + 1) := by
      rw [na_sub (by rw [ed]; omega) (by rw [ed]; omega), ed]
    refine zT_rtn (pc := 56) (e := (35, 1, 0, 0, 0, .null, [])) rfl rfl ?_
    refine ⟨[(f 102 4 - (f 102 5 + 1)).toInt], ⟨rfl, fun k w q h1 h2 => ?_⟩, ⟨_, rfl, _, rfl, (Int.add_zero _).symm⟩, ⟨⟨hh.1.1, hh.1.2.1, ?_⟩, fun o k a ha => by cases ha⟩, fun f hf => (by cases hf), fun f hf => (by cases hf), ⟨fun o k hw => ?_, fun _ => rfl, rfl⟩, ?_⟩
    · match k, h1, h2 with
      | 0, h1, h2 =>
        cases h1
        cases h2
        show (Int.negSucc 4 : Int) ≤ _ ∧ _ ≤ (Int.ofNat 40 : Int)
        simp only [Int.negSucc_eq, Int.ofNat_eq_natCast]
        omega
    · refine hupb (hupb hb l2 l3) ?_ ?_
      · rw [show aiv kB 102 5 = (0, 40) from rfl]
        dsimp only
        omega
      · rw [show aiv kB 102 5 = (0, 40) from rfl]
        dsimp only
        omega
    · dsimp only
      rw [zne_up (fun q => by rw [q.1, q.2] at hw; cases hw), zne_up (fun q => by rw [q.1] at hw; cases hw)]
    · refine hJ_of hj ?_ (fun k => ?_) (fun k => ?_) (fun k => ?_)
      · rw [zsame_up, zne_up (by omega), zne_up (by omega)]
        omega
      · rw [zne_up (by omega), zne_up (by omega)]
      · rw [zne_up (by omega), zne_up (by omega)]
      · rw [zne_up (by omega), zne_up (by omega)]
/-! BY HAND: becomes (the reference's): a change is noted. -/
noncomputable def hbecE (wb vb : Int × Int) : aE := (148, 0, ([wb, vb], [], 0, [some (.inr [102]), some (.inl (.inl (.inl (0, .ofNat 0)))), some (.inl (.inl (.inl (1, .ofNat 0)))), none, none], []), ([], none), ([(.negSucc 0, .ofNat 99)], [], some (.inl (.inl (.inl (2, .ofNat 0)))), ([], [])), ([(102, 4), (102, 5)], [103, 104, 105, 106]))
/-- what rows 104 .. 106 hold together -/
noncomputable def hJp (f : Nat → Nat → Int32) : Prop := ∀ k, k < 40 → 60 ≤ (f 104 k).toInt → (f 104 k).toInt ≤ 67 → (f 105 k).toInt ≤ 5 ∧ (f 106 k).toInt ≤ 5
noncomputable def hBd (f : Nat → Nat → Int32) : Prop := ∀ o k, (aiv kB o k).1 ≤ (f o k).toInt ∧ (f o k).toInt ≤ (aiv kB o k).2
theorem hlo5 {lo : List (Option Value)} {E : List Int} {a b c : aV} (h : aLo E lo [some a, some b, some c, none, none]) : ∃ v1 v2 v3 l3 l4, lo = [some v1, some v2, some v3, l3, l4] ∧ aVs E v1 a ∧ aVs E v2 b ∧ aVs E v3 c := by
  obtain ⟨v1, h1, g1⟩ := h.2 0 a rfl
  obtain ⟨v2, h2, g2⟩ := h.2 1 b rfl
  obtain ⟨v3, h3, g3⟩ := h.2 2 c rfl
  match lo, h.1, h1, h2, h3 with
  | [x1, x2, x3, x4, x5], _, h1, h2, h3 =>
    cases h1
    cases h2
    cases h3
    exact ⟨v1, v2, v3, x4, x5, rfl, g1, g2, g3⟩
section HB
variable {S1 : List (Nat × Nat)} {f0 f : Nat → Nat → Int32} {g : Nat → Nat → Int64} {r : Nat → Nat → Option Nat} {wb vb : Int × Int} {E : List Int} {iw vv was : Int32} {l4 : Option Value}
theorem hbec_tail (hS : aShp kS S1) (hr : aRf krf r) (hb : hBd f) (hp : hJp f) (hd0 : 0 ≤ (f 102 5).toInt) (hd1 : (f 102 5).toInt ≤ 39) (w0 : 0 ≤ iw.toInt) (w1 : iw.toInt ≤ 103) (a1 : -1 ≤ was.toInt) (a2 : was.toInt ≤ 99) (m1 : 60 ≤ iw.toInt → iw.toInt ≤ 67 → was.toInt ≤ 5 ∧ vv.toInt ≤ 5) (l1 : (aiv kB 103 (zix iw)).1 ≤ vv.toInt) (l2 : vv.toInt ≤ (aiv kB 103 (zix iw)).2) (v1 : -1 ≤ vv.toInt) (v2 : vv.toInt ≤ 99) (hE : E.length = 2) (hf : ∀ o k, aWf (hbecE wb vb).2.2.2.2.2 o k = false → f o k = f0 o k) : zT 0 148 (97, [some (.ref 102), some (.int iw), some (.int vv), some (.int was), l4], [], (S1, f, g, r)) (aPost kS krf kB (hbecE wb vb) E (S1, f0, g, r)) := by
  have h0 : zget S1 102 = some (22, 49) := hS 102 22 49 rfl rfl
  have h103 : zget S1 103 = some (0, 104) := hS 103 0 104 rfl rfl
  have h104 : zget S1 104 = some (0, 40) := hS 104 0 40 rfl rfl
  have h105 : zget S1 105 = some (0, 40) := hS 105 0 40 rfl rfl
  have h106 : zget S1 106 = some (0, 40) := hS 106 0 40 rfl rfl
  have q0 : r 102 0 = some 103 := href hr rfl
  have q1 : r 102 1 = some 104 := href hr rfl
  have q2 : r 102 2 = some 105 := href hr rfl
  have q3 : r 102 3 = some 106 := href hr rfl
  have z1 : (1 : Int32).toInt = 1 := rfl
  have zd := azix (i := f 102 5) hd0
  have zw := azix (i := iw) w0
  have i1 : Nat.blt (zix (f 102 5)) 40 = true := by rw [Nat.blt_eq]; omega
  have i2 : Nat.blt (zix iw) 104 = true := by rw [Nat.blt_eq]; omega
  have ed : (f 102 5 + 1).toInt = (f 102 5).toInt + 1 := by
    rw [na_add (by rw [z1]; omega) (by rw [z1]; omega), z1]
  refine zT_stp (pc := 97) (e := (3, 1, 0, 0, 0, .null, [])) rfl rfl ?_
  refine zT_stp (pc := 98) (e := (20, 3, 12, 1, 1, .null, [(0, 1031)])) rfl (hgr h0 rfl q1) ?_
  refine zT_stp (pc := 101) (e := (3, 1, 0, 0, 0, .null, [])) rfl rfl ?_
  refine zT_stp (pc := 102) (e := (20, 3, 12, 5, 0, .null, [(0, 1056)])) rfl (hgi h0 rfl) ?_
  refine zT_stp (pc := 105) (e := (1, 1, 1, 0, 0, .null, [])) rfl rfl ?_
  refine zT_stp (pc := 106) (e := (25, 1, 0, 0, 0, .null, [])) rfl (his h104 i1) ?_
  refine zT_stp (pc := 107) (e := (3, 1, 0, 0, 0, .null, [])) rfl rfl ?_
  refine zT_stp (pc := 108) (e := (20, 3, 12, 2, 1, .null, [(0, 1032)])) rfl (hgr h0 rfl q2) ?_
  refine zT_stp (pc := 111) (e := (3, 1, 0, 0, 0, .null, [])) rfl rfl ?_
  refine zT_stp (pc := 112) (e := (20, 3, 12, 5, 0, .null, [(0, 1056)])) rfl (hgi h0 rfl) ?_
  rw [zne_up (show ¬ (102 = 104 ∧ 5 = zix (f 102 5)) by omega)]
  refine zT_stp (pc := 115) (e := (1, 1, 3, 0, 0, .null, [])) rfl rfl ?_
  refine zT_stp (pc := 116) (e := (25, 1, 0, 0, 0, .null, [])) rfl (his h105 i1) ?_
  refine zT_stp (pc := 117) (e := (3, 1, 0, 0, 0, .null, [])) rfl rfl ?_
  refine zT_stp (pc := 118) (e := (20, 3, 12, 3, 1, .null, [(0, 1033)])) rfl (hgr h0 rfl q3) ?_
  refine zT_stp (pc := 121) (e := (3, 1, 0, 0, 0, .null, [])) rfl rfl ?_
  refine zT_stp (pc := 122) (e := (20, 3, 12, 5, 0, .null, [(0, 1056)])) rfl (hgi h0 rfl) ?_
  rw [zne_up (show ¬ (102 = 105 ∧ 5 = zix (f 102 5)) by omega), zne_up (show ¬ (102 = 104 ∧ 5 = zix (f 102 5)) by omega)]
  refine zT_stp (pc := 125) (e := (1, 1, 2, 0, 0, .null, [])) rfl rfl ?_
  refine zT_stp (pc := 126) (e := (25, 1, 0, 0, 0, .null, [])) rfl (his h106 i1) ?_
  refine zT_stp (pc := 127) (e := (3, 1, 0, 0, 0, .null, [])) rfl rfl ?_
  refine zT_stp (pc := 128) (e := (39, 1, 0, 0, 0, .null, [])) rfl rfl ?_
  refine zT_stp (pc := 129) (e := (20, 3, 12, 5, 0, .null, [(0, 1056)])) rfl (hgi h0 rfl) ?_
  rw [zne_up (show ¬ (102 = 106 ∧ 5 = zix (f 102 5)) by omega), zne_up (show ¬ (102 = 105 ∧ 5 = zix (f 102 5)) by omega), zne_up (show ¬ (102 = 104 ∧ 5 = zix (f 102 5)) by omega)]
  refine zT_stp (pc := 132) (e := (0, 1, 0, 0, 0, .int 1, [])) rfl rfl ?_
  refine zT_stp (pc := 133) (e := (7, 1, 0, 0, 0, .null, [])) rfl rfl ?_
  refine zT_stp (pc := 134) (e := (21, 3, 12, 5, 0, .null, [(0, 1056)])) rfl (hpi h0 rfl) ?_
  have e1 : zbin 0 (f 102 5) 1 = f 102 5 + 1 := rfl
  rw [e1]
  refine zT_stp (pc := 137) (e := (3, 1, 0, 0, 0, .null, [])) rfl rfl ?_
  refine zT_stp (pc := 138) (e := (3, 1, 0, 0, 0, .null, [])) rfl rfl ?_
  refine zT_stp (pc := 139) (e := (20, 3, 12, 5, 0, .null, [(0, 1056)])) rfl (hgi h0 rfl) ?_
  rw [zsame_up]
  refine zT_stp (pc := 142) (e := (21, 3, 12, 4, 0, .null, [(0, 1057)])) rfl (hpi h0 rfl) ?_
  refine zT_stp (pc := 145) (e := (3, 1, 0, 0, 0, .null, [])) rfl rfl ?_
  refine zT_stp (pc := 146) (e := (20, 3, 12, 0, 1, .null, [(0, 1030)])) rfl (hgr h0 rfl q0) ?_
  refine zT_stp (pc := 149) (e := (1, 1, 1, 0, 0, .null, [])) rfl rfl ?_
  refine zT_stp (pc := 150) (e := (1, 1, 2, 0, 0, .null, [])) rfl rfl ?_
  refine zT_stp (pc := 151) (e := (25, 1, 0, 0, 0, .null, [])) rfl (his h103 i2) ?_
  refine zT_stp (pc := 152) (e := (1, 1, 3, 0, 0, .null, [])) rfl rfl ?_
  refine zT_rtn (pc := 153) (e := (35, 1, 0, 0, 0, .null, [])) rfl rfl ?_
  refine ⟨[was.toInt], ⟨rfl, fun k w q h1 h2 => ?_⟩, ⟨_, rfl, was.toInt, ?_, (Int.add_zero _).symm⟩, ⟨⟨hS, hr, ?_⟩, fun o k a ha => by cases ha⟩, fun f hf => (by cases hf), fun f hf => (by cases hf), ⟨fun o k hw => ?_, fun _ => rfl, rfl⟩, ?_⟩
  · match k, h1, h2 with
    | 0, h1, h2 =>
      cases h1
      cases h2
      show (Int.negSucc 0 : Int) ≤ _ ∧ _ ≤ (Int.ofNat 99 : Int)
      simp only [Int.negSucc_eq, Int.ofNat_eq_natCast]
      omega
  · match E, hE with
    | [e1, e2], _ => rfl
  · have c4 : ∀ k, aiv kB 104 k = (0, 103) := fun _ => rfl
    have c5 : ∀ k, aiv kB 105 k = (-1, 99) := fun _ => rfl
    have c6 : ∀ k, aiv kB 106 k = (-1, 99) := fun _ => rfl
    have cd : aiv kB 102 5 = (0, 40) := rfl
    have ck : aiv kB 102 4 = (0, 40) := rfl
    refine hupb (hupb (hupb (hupb (hupb (hupb hb ?_ ?_) ?_ ?_) ?_ ?_) ?_ ?_) ?_ ?_) l1 l2
    · rw [c4]; exact w0
    · rw [c4]; exact w1
    · rw [c5]; exact a1
    · rw [c5]; exact a2
    · rw [c6]; exact v1
    · rw [c6]; exact v2
    · rw [cd, ed]; dsimp only; omega
    · rw [cd, ed]; dsimp only; omega
    · rw [ck, ed]; dsimp only; omega
    · rw [ck, ed]; dsimp only; omega
  · dsimp only
    rw [zne_up (fun q => by rw [q.1] at hw; cases hw), zne_up (fun q => by rw [q.1, q.2] at hw; cases hw), zne_up (fun q => by rw [q.1, q.2] at hw; cases hw), zne_up (fun q => by rw [q.1] at hw; cases hw), zne_up (fun q => by rw [q.1] at hw; cases hw), zne_up (fun q => by rw [q.1] at hw; cases hw)]
    exact hf o k hw
  · refine ⟨?_, fun k hk => ?_⟩
    · dsimp only
      rw [zne_up (by omega), zne_up (by omega), zsame_up, zne_up (by omega), zsame_up]
      exact Int.le_refl _
    · dsimp only
      rw [zne_up (show ¬ (104 = 103 ∧ k = zix iw) by omega), zne_up (show ¬ (104 = 102 ∧ k = 4) by omega), zne_up (show ¬ (104 = 102 ∧ k = 5) by omega), zne_up (show ¬ (104 = 106 ∧ k = zix (f 102 5)) by omega), zne_up (show ¬ (104 = 105 ∧ k = zix (f 102 5)) by omega)]
      rw [zne_up (show ¬ (105 = 103 ∧ k = zix iw) by omega), zne_up (show ¬ (105 = 102 ∧ k = 4) by omega), zne_up (show ¬ (105 = 102 ∧ k = 5) by omega), zne_up (show ¬ (105 = 106 ∧ k = zix (f 102 5)) by omega)]
      rw [zne_up (show ¬ (106 = 103 ∧ k = zix iw) by omega), zne_up (show ¬ (106 = 102 ∧ k = 4) by omega), zne_up (show ¬ (106 = 102 ∧ k = 5) by omega)]
      by_cases hkd : k = zix (f 102 5)
      · subst hkd
        rw [zsame_up, zsame_up, zsame_up]
        exact m1
      · rw [zne_up (show ¬ (104 = 104 ∧ k = zix (f 102 5)) by omega), zne_up (show ¬ (105 = 105 ∧ k = zix (f 102 5)) by omega), zne_up (show ¬ (105 = 104 ∧ k = zix (f 102 5)) by omega), zne_up (show ¬ (106 = 106 ∧ k = zix (f 102 5)) by omega), zne_up (show ¬ (106 = 105 ∧ k = zix (f 102 5)) by omega), zne_up (show ¬ (106 = 104 ∧ k = zix (f 102 5)) by omega)]
        exact hp k hk
end HB
/-! BY HAND: becomes: the oldest change falls away; the whole. -/
section HB2
variable {S1 : List (Nat × Nat)} {f0 : Nat → Nat → Int32} {g : Nat → Nat → Int64} {r : Nat → Nat → Option Nat} {wb vb : Int × Int} {E : List Int} {iw vv was : Int32}
theorem hbec_loop (hS : aShp kS S1) (hr : aRf krf r) (w0 : 0 ≤ iw.toInt) (w1 : iw.toInt ≤ 103) (a1 : -1 ≤ was.toInt) (a2 : was.toInt ≤ 99) (m1 : 60 ≤ iw.toInt → iw.toInt ≤ 67 → was.toInt ≤ 5 ∧ vv.toInt ≤ 5) (l1 : (aiv kB 103 (zix iw)).1 ≤ vv.toInt) (l2 : vv.toInt ≤ (aiv kB 103 (zix iw)).2) (v1 : -1 ≤ vv.toInt) (v2 : vv.toInt ≤ 99) (hE : E.length = 2) : ∀ (n : Nat) (f : Nat → Nat → Int32) (k : Int32), hBd f → hJp f → f 102 5 = 40 → k.toInt = 40 - (n : Int) → n ≤ 39 → (∀ o k, aWf (hbecE wb vb).2.2.2.2.2 o k = false → f o k = f0 o k) → zT 0 148 (26, [some (.ref 102), some (.int iw), some (.int vv), some (.int was), some (.int k)], [], (S1, f, g, r)) (aPost kS krf kB (hbecE wb vb) E (S1, f0, g, r))
  | 0, f, k, hb, hp, hd, hk, _, hf => by
    have h0 : zget S1 102 = some (22, 49) := hS 102 22 49 rfl rfl
    have ek : k = 40 := Int32.toInt_inj.mp (by rw [hk]; rfl)
    subst ek
    refine zT_stp (pc := 26) (e := (1, 2, 4, 0, 0, .null, [])) rfl rfl ?_
    refine zT_stp (pc := 28) (e := (0, 2, 0, 0, 0, .int 40, [])) rfl rfl ?_
    refine zT_stp (pc := 30) (e := (16, 3, 87, 3, 0, .null, [])) rfl rfl ?_
    refine zT_stp (pc := 87) (e := (3, 1, 0, 0, 0, .null, [])) rfl rfl ?_
    refine zT_stp (pc := 88) (e := (39, 1, 0, 0, 0, .null, [])) rfl rfl ?_
    refine zT_stp (pc := 89) (e := (20, 3, 12, 5, 0, .null, [(0, 1056)])) rfl (hgi h0 rfl) ?_
    refine zT_stp (pc := 92) (e := (0, 1, 0, 0, 0, .int 1, [])) rfl rfl ?_
    refine zT_stp (pc := 93) (e := (7, 1, 0, 1, 0, .null, [])) rfl rfl ?_
    refine zT_stp (pc := 94) (e := (21, 3, 12, 5, 0, .null, [(0, 1056)])) rfl (hpi h0 rfl) ?_
    rw [hd]
    have e39 : zbin 1 40 1 = (39 : Int32) := rfl
    rw [e39]
    have t39 : (39 : Int32).toInt = 39 := rfl
    refine hbec_tail hS hr (hupb hb ?_ ?_) ?_ ?_ ?_ w0 w1 a1 a2 m1 l1 l2 v1 v2 hE ?_
    · rw [show aiv kB 102 5 = (0, 40) from rfl, t39]
      decide
    · rw [show aiv kB 102 5 = (0, 40) from rfl, t39]
      decide
    · intro j hj
      rw [zne_up (show ¬ (104 = 102 ∧ j = 5) by omega), zne_up (show ¬ (105 = 102 ∧ j = 5) by omega), zne_up (show ¬ (106 = 102 ∧ j = 5) by omega)]
      exact hp j hj
    · rw [zsame_up, t39]
      decide
    · rw [zsame_up, t39]
      decide
    · intro o j hw
      rw [zne_up (fun q => by rw [q.1, q.2] at hw; cases hw)]
      exact hf o j hw
  | n + 1, f, k, hb, hp, hd, hk, hn, hf => by
    have h0 : zget S1 102 = some (22, 49) := hS 102 22 49 rfl rfl
    have h104 : zget S1 104 = some (0, 40) := hS 104 0 40 rfl rfl
    have h105 : zget S1 105 = some (0, 40) := hS 105 0 40 rfl rfl
    have h106 : zget S1 106 = some (0, 40) := hS 106 0 40 rfl rfl
    have q1 : r 102 1 = some 104 := href hr rfl
    have q2 : r 102 2 = some 105 := href hr rfl
    have q3 : r 102 3 = some 106 := href hr rfl
    have z1 : (1 : Int32).toInt = 1 := rfl
    have z40 : (40 : Int32).toInt = 40 := rfl
    have hk : k.toInt = 40 - ((n : Int) + 1) := hk
    have em : (k - 1).toInt = k.toInt - 1 := by
      rw [na_sub (by rw [z1]; omega) (by rw [z1]; omega), z1]
    have ep : (k + 1).toInt = k.toInt + 1 := by
      rw [na_add (by rw [z1]; omega) (by rw [z1]; omega), z1]
    have zk := azix (i := k) (by omega)
    have zm := azix (i := k - 1) (by omega)
    have i1 : Nat.blt (zix k) 40 = true := by rw [Nat.blt_eq]; omega
    have i2 : Nat.blt (zix (k - 1)) 40 = true := by rw [Nat.blt_eq]; omega
    have e1 : zbin 1 k 1 = k - 1 := rfl
    have hlt : k < 40 := Int32.lt_iff_toInt_lt.mpr (by rw [z40]; omega)
    refine zT_stp (pc := 26) (e := (1, 2, 4, 0, 0, .null, [])) rfl rfl ?_
    refine zT_stp (pc := 28) (e := (0, 2, 0, 0, 0, .int 40, [])) rfl rfl ?_
    refine zT_stp (pc := 30) (e := (16, 3, 87, 3, 0, .null, [])) (y := (33, [some (.ref 102), some (.int iw), some (.int vv), some (.int was), some (.int k)], [], (S1, f, g, r))) rfl ?_ ?_
    · show some (Sum.inl (zicmp 3 k 40 87 33, _, _, _)) = _
      rw [show zicmp 3 k 40 87 33 = 33 from if_pos hlt]
    refine zT_stp (pc := 33) (e := (3, 1, 0, 0, 0, .null, [])) rfl rfl ?_
    refine zT_stp (pc := 34) (e := (20, 3, 12, 1, 1, .null, [(0, 1031)])) rfl (hgr h0 rfl q1) ?_
    refine zT_stp (pc := 37) (e := (1, 2, 4, 0, 0, .null, [])) rfl rfl ?_
    refine zT_stp (pc := 39) (e := (0, 1, 0, 0, 0, .int 1, [])) rfl rfl ?_
    refine zT_stp (pc := 40) (e := (7, 1, 0, 1, 0, .null, [])) rfl rfl ?_
    rw [e1]
    refine zT_stp (pc := 41) (e := (3, 1, 0, 0, 0, .null, [])) rfl rfl ?_
    refine zT_stp (pc := 42) (e := (20, 3, 12, 1, 1, .null, [(0, 1031)])) rfl (hgr h0 rfl q1) ?_
    refine zT_stp (pc := 45) (e := (1, 2, 4, 0, 0, .null, [])) rfl rfl ?_
    refine zT_stp (pc := 47) (e := (22, 1, 0, 0, 0, .null, [])) rfl (hil h104 i1) ?_
    refine zT_stp (pc := 48) (e := (25, 1, 0, 0, 0, .null, [])) rfl (his h104 i2) ?_
    refine zT_stp (pc := 49) (e := (3, 1, 0, 0, 0, .null, [])) rfl rfl ?_
    refine zT_stp (pc := 50) (e := (20, 3, 12, 2, 1, .null, [(0, 1032)])) rfl (hgr h0 rfl q2) ?_
    refine zT_stp (pc := 53) (e := (1, 2, 4, 0, 0, .null, [])) rfl rfl ?_
    refine zT_stp (pc := 55) (e := (0, 1, 0, 0, 0, .int 1, [])) rfl rfl ?_
    refine zT_stp (pc := 56) (e := (7, 1, 0, 1, 0, .null, [])) rfl rfl ?_
    rw [e1]
    refine zT_stp (pc := 57) (e := (3, 1, 0, 0, 0, .null, [])) rfl rfl ?_
    refine zT_stp (pc := 58) (e := (20, 3, 12, 2, 1, .null, [(0, 1032)])) rfl (hgr h0 rfl q2) ?_
    refine zT_stp (pc := 61) (e := (1, 2, 4, 0, 0, .null, [])) rfl rfl ?_
    refine zT_stp (pc := 63) (e := (22, 1, 0, 0, 0, .null, [])) rfl (hil h105 i1) ?_
    rw [zne_up (show ¬ (105 = 104 ∧ zix k = zix (k - 1)) by omega)]
    refine zT_stp (pc := 64) (e := (25, 1, 0, 0, 0, .null, [])) rfl (his h105 i2) ?_
    refine zT_stp (pc := 65) (e := (3, 1, 0, 0, 0, .null, [])) rfl rfl ?_
    refine zT_stp (pc := 66) (e := (20, 3, 12, 3, 1, .null, [(0, 1033)])) rfl (hgr h0 rfl q3) ?_
    refine zT_stp (pc := 69) (e := (1, 2, 4, 0, 0, .null, [])) rfl rfl ?_
    refine zT_stp (pc := 71) (e := (0, 1, 0, 0, 0, .int 1, [])) rfl rfl ?_
    refine zT_stp (pc := 72) (e := (7, 1, 0, 1, 0, .null, [])) rfl rfl ?_
    rw [e1]
    refine zT_stp (pc := 73) (e := (3, 1, 0, 0, 0, .null, [])) rfl rfl ?_
    refine zT_stp (pc := 74) (e := (20, 3, 12, 3, 1, .null, [(0, 1033)])) rfl (hgr h0 rfl q3) ?_
    refine zT_stp (pc := 77) (e := (1, 2, 4, 0, 0, .null, [])) rfl rfl ?_
    refine zT_stp (pc := 79) (e := (22, 1, 0, 0, 0, .null, [])) rfl (hil h106 i1) ?_
    rw [zne_up (show ¬ (106 = 105 ∧ zix k = zix (k - 1)) by omega), zne_up (show ¬ (106 = 104 ∧ zix k = zix (k - 1)) by omega)]
    refine zT_stp (pc := 80) (e := (25, 1, 0, 0, 0, .null, [])) rfl (his h106 i2) ?_
    refine zT_stp (pc := 81) (e := (19, 3, 4, 0, 0, .int 1, [])) rfl rfl ?_
    refine zT_stp (pc := 84) (e := (17, 3, 26, 0, 0, .null, [])) rfl rfl ?_
    have c4 : ∀ k, aiv kB 104 k = (0, 103) := fun _ => rfl
    have c5 : ∀ k, aiv kB 105 k = (-1, 99) := fun _ => rfl
    have c6 : ∀ k, aiv kB 106 k = (-1, 99) := fun _ => rfl
    have b4 := hb 104 (zix k)
    have b5 := hb 105 (zix k)
    have b6 := hb 106 (zix k)
    refine hbec_loop hS hr w0 w1 a1 a2 m1 l1 l2 v1 v2 hE n _ (k + 1) (hupb (hupb (hupb hb ?_ ?_) ?_ ?_) ?_ ?_) ?_ ?_ (by omega) (by omega) ?_
    · rw [c4] at b4 ⊢; exact b4.1
    · rw [c4] at b4 ⊢; exact b4.2
    · rw [c5] at b5 ⊢; exact b5.1
    · rw [c5] at b5 ⊢; exact b5.2
    · rw [c6] at b6 ⊢; exact b6.1
    · rw [c6] at b6 ⊢; exact b6.2
    · intro j hj
      rw [zne_up (show ¬ (104 = 106 ∧ j = zix (k - 1)) by omega), zne_up (show ¬ (104 = 105 ∧ j = zix (k - 1)) by omega), zne_up (show ¬ (105 = 106 ∧ j = zix (k - 1)) by omega)]
      by_cases hjk : j = zix (k - 1)
      · subst hjk
        rw [zsame_up, zsame_up, zsame_up]
        exact hp (zix k) (by omega)
      · rw [zne_up (show ¬ (104 = 104 ∧ j = zix (k - 1)) by omega), zne_up (show ¬ (105 = 105 ∧ j = zix (k - 1)) by omega), zne_up (show ¬ (105 = 104 ∧ j = zix (k - 1)) by omega), zne_up (show ¬ (106 = 106 ∧ j = zix (k - 1)) by omega), zne_up (show ¬ (106 = 105 ∧ j = zix (k - 1)) by omega), zne_up (show ¬ (106 = 104 ∧ j = zix (k - 1)) by omega)]
        exact hp j hj
    · rw [zne_up (by omega), zne_up (by omega), zne_up (by omega)]
      exact hd
    · intro o j hw
      rw [zne_up (fun q => by rw [q.1] at hw; cases hw), zne_up (fun q => by rw [q.1] at hw; cases hw), zne_up (fun q => by rw [q.1] at hw; cases hw)]
      exact hf o j hw
end HB2
/-- the bounds of where and of what fit -/
noncomputable def hbecB (wb vb : Int × Int) : Bool := (ile 0 wb.1 && ile wb.2 103) && (List.range 104).all (fun k => bif ile wb.1 (Int.ofNat k) && ile (Int.ofNat k) wb.2 then ile (aiv kB 103 k).1 vb.1 && ile vb.2 (aiv kB 103 k).2 else true)
theorem hand_becomes {wb vb : Int × Int} (hB : hbecB wb vb = true) : aOK kS krf kB (hbecE wb vb) := by
  intro E x R hD hsl hj
  obtain ⟨pc, lo, st, S1, f, g, r⟩ := x
  obtain ⟨hs, hpc, hl, hst, hh⟩ := R
  have hpc : 0 = pc := hpc
  subst hpc
  obtain ⟨u1, u2, u3, l3, l4, rfl, ⟨o, rfl, ho⟩, ⟨iw, rfl, ww, gw, ew⟩, ⟨vv, rfl, wv, gv, ev⟩⟩ := hlo5 hl
  have ho := List.mem_singleton.mp ho
  subst ho
  have est : st = [] := by
    cases st with
    | nil => rfl
    | cons _ _ => exact hst.elim
  subst est
  have hE : E.length = 2 := hs.1
  have bw := hs.2 0 ww wb gw rfl
  have bv := hs.2 1 wv vb gv rfl
  have ew : iw.toInt = ww := ew.trans (Int.add_zero _)
  have ev : vv.toInt = wv := ev.trans (Int.add_zero _)
  unfold hbecB at hB
  rw [Bool.and_eq_true, Bool.and_eq_true, ile_eq, ile_eq] at hB
  obtain ⟨⟨k0, k1⟩, kall⟩ := hB
  have w0 : 0 ≤ iw.toInt := by omega
  have w1 : iw.toInt ≤ 103 := by omega
  have zw := azix (i := iw) w0
  have hz104 : zix iw < 104 := by omega
  have kk := List.all_eq_true.mp kall (zix iw) (List.mem_range.mpr hz104)
  have kc : (ile wb.1 (Int.ofNat (zix iw)) && ile (Int.ofNat (zix iw)) wb.2) = true := by
    rw [Bool.and_eq_true, ile_eq, ile_eq]
    simp only [Int.ofNat_eq_natCast]
    omega
  rw [kc] at kk
  dsimp only [cond_true] at kk
  rw [Bool.and_eq_true, ile_eq, ile_eq] at kk
  have l1 : (aiv kB 103 (zix iw)).1 ≤ vv.toInt := by omega
  have l2 : vv.toInt ≤ (aiv kB 103 (zix iw)).2 := by omega
  have hb : hBd f := hh.1.2.2
  have ba := hb 103 (zix iw)
  obtain ⟨y1, y2⟩ := hmay hz104
  have h0 : zget S1 102 = some (22, 49) := hh.1.1 102 22 49 rfl rfl
  have h103 : zget S1 103 = some (0, 104) := hh.1.1 103 0 104 rfl rfl
  have q0 : r 102 0 = some 103 := href hh.1.2.1 rfl
  have i2 : Nat.blt (zix iw) 104 = true := by rw [Nat.blt_eq]; exact hz104
  have both : (-1 ≤ (f 103 (zix iw)).toInt ∧ (f 103 (zix iw)).toInt ≤ 99) ∧ (-1 ≤ vv.toInt ∧ vv.toInt ≤ 99) ∧ (60 ≤ iw.toInt → iw.toInt ≤ 67 → (f 103 (zix iw)).toInt ≤ 5 ∧ vv.toInt ≤ 5) := by
    by_cases c : 60 ≤ zix iw ∧ zix iw ≤ 67
    · have e := y1 c.1 c.2
      rw [e] at l1 l2 ba
      dsimp only at l1 l2 ba
      omega
    · have e := y2 (by omega)
      rw [e] at l1 l2 ba
      dsimp only at l1 l2 ba
      omega
  obtain ⟨⟨a1, a2⟩, ⟨v1, v2⟩, m1⟩ := both
  have bd := hb 102 5
  rw [show aiv kB 102 5 = (0, 40) from rfl] at bd
  dsimp only at bd
  show zT 0 148 (0, [some (.ref 102), some (.int iw), some (.int vv), l3, l4], [], (S1, f, g, r)) (aPost kS krf kB (hbecE wb vb) E (S1, f, g, r))
  refine zT_stp (pc := 0) (e := (3, 1, 0, 0, 0, .null, [])) rfl rfl ?_
  refine zT_stp (pc := 1) (e := (20, 3, 12, 0, 1, .null, [(0, 1030)])) rfl (hgr h0 rfl q0) ?_
  refine zT_stp (pc := 4) (e := (1, 1, 1, 0, 0, .null, [])) rfl rfl ?_
  refine zT_stp (pc := 5) (e := (22, 1, 0, 0, 0, .null, [])) rfl (hil h103 i2) ?_
  refine zT_stp (pc := 6) (e := (4, 1, 3, 0, 0, .null, [])) rfl rfl ?_
  refine zT_stp (pc := 7) (e := (1, 1, 3, 0, 0, .null, [])) rfl rfl ?_
  refine zT_stp (pc := 8) (e := (1, 1, 2, 0, 0, .null, [])) rfl rfl ?_
  by_cases hq : f 103 (zix iw) = vv
  · refine zT_stp (pc := 9) (e := (16, 3, 14, 1, 0, .null, [])) (y := (12, [some (.ref 102), some (.int iw), some (.int vv), some (.int (f 103 (zix iw))), l4], [], (S1, f, g, r))) rfl ?_ ?_
    · show some (Sum.inl (zicmp 1 (f 103 (zix iw)) vv 14 12, _, _, _)) = _
      rw [show zicmp 1 (f 103 (zix iw)) vv 14 12 = 12 from if_pos hq]
      rfl
    refine zT_stp (pc := 12) (e := (1, 1, 3, 0, 0, .null, [])) rfl rfl ?_
    refine zT_rtn (pc := 13) (e := (35, 1, 0, 0, 0, .null, [])) rfl rfl ?_
    refine ⟨[(f 103 (zix iw)).toInt], ⟨rfl, fun k w q h1 h2 => ?_⟩, ⟨_, rfl, (f 103 (zix iw)).toInt, ?_, (Int.add_zero _).symm⟩, ⟨hh.1, fun o k a ha => by cases ha⟩, fun f hf => (by cases hf), fun f hf => (by cases hf), aFr_refl, hj⟩
    · match k, h1, h2 with
      | 0, h1, h2 =>
        cases h1
        cases h2
        show (Int.negSucc 0 : Int) ≤ _ ∧ _ ≤ (Int.ofNat 99 : Int)
        simp only [Int.negSucc_eq, Int.ofNat_eq_natCast]
        omega
    · match E, hE with
      | [e1, e2], _ => rfl
  · refine zT_stp (pc := 9) (e := (16, 3, 14, 1, 0, .null, [])) (y := (14, [some (.ref 102), some (.int iw), some (.int vv), some (.int (f 103 (zix iw))), l4], [], (S1, f, g, r))) rfl ?_ ?_
    · show some (Sum.inl (zicmp 1 (f 103 (zix iw)) vv 14 12, _, _, _)) = _
      rw [show zicmp 1 (f 103 (zix iw)) vv 14 12 = 14 from if_neg hq]
      rfl
    refine zT_stp (pc := 14) (e := (3, 1, 0, 0, 0, .null, [])) rfl rfl ?_
    refine zT_stp (pc := 15) (e := (20, 3, 12, 5, 0, .null, [(0, 1056)])) rfl (hgi h0 rfl) ?_
    refine zT_stp (pc := 18) (e := (0, 2, 0, 0, 0, .int 40, [])) rfl rfl ?_
    by_cases hd : f 102 5 = 40
    · refine zT_stp (pc := 20) (e := (16, 3, 97, 1, 0, .null, [])) (y := (23, [some (.ref 102), some (.int iw), some (.int vv), some (.int (f 103 (zix iw))), l4], [], (S1, f, g, r))) rfl ?_ ?_
      · show some (Sum.inl (zicmp 1 (f 102 5) 40 97 23, _, _, _)) = _
        rw [show zicmp 1 (f 102 5) 40 97 23 = 23 from if_pos hd]
      refine zT_stp (pc := 23) (e := (0, 1, 0, 0, 0, .int 1, [])) rfl rfl ?_
      refine zT_stp (pc := 24) (e := (4, 2, 4, 0, 0, .null, [])) rfl rfl ?_
      exact hbec_loop hh.1.1 hh.1.2.1 w0 w1 a1 a2 m1 l1 l2 v1 v2 hE 39 f 1 hb hj.2 hd rfl (Nat.le_refl _) (fun _ _ _ => rfl)
    · refine zT_stp (pc := 20) (e := (16, 3, 97, 1, 0, .null, [])) (y := (97, [some (.ref 102), some (.int iw), some (.int vv), some (.int (f 103 (zix iw))), l4], [], (S1, f, g, r))) rfl ?_ ?_
      · show some (Sum.inl (zicmp 1 (f 102 5) 40 97 23, _, _, _)) = _
        rw [show zicmp 1 (f 102 5) 40 97 23 = 97 from if_neg hd]
      have d40 : (f 102 5).toInt ≠ 40 := fun w => hd (Int32.toInt_inj.mp w)
      exact hbec_tail hh.1.1 hh.1.2.1 hb hj.2 bd.1 (by omega) w0 w1 a1 a2 m1 l1 l2 v1 v2 hE (fun _ _ _ => rfl)
/-! ENTRIES for the proof of allAsk by hand: printed by a program (wip/ai/sub.py). -/
/-- ColdShodModel.headRather(III)Z -/
noncomputable def kE9000 : aE := (195, 1, ([(.ofNat 0, .ofNat 5), (.ofNat 0, .ofNat 7), (.ofNat 0, .ofNat 7)], [], 0, [some (.inr [102]), some (.inl (.inl (.inl (0, .ofNat 0)))), some (.inl (.inl (.inl (1, .ofNat 0)))), some (.inl (.inl (.inl (2, .ofNat 0)))), none, none], []), ([], none), ([(.ofNat 0, .ofNat 1)], [], some (.inl (.inl (.inl (3, .ofNat 0)))), ([], [])), ([], []))
theorem ks9000 : aseg kS krf kB [] (ksp []) kE9000 [] 30000 (none) = true := by decide +kernel
theorem kok9000 : aOK kS krf kB kE9000 := aOK_of kal0 kcl0 ks9000
/-- ColdShodModel.ideaOf(I)I -/
noncomputable def kE9001 : aE := (197, 0, ([(.ofNat 0, .ofNat 5)], [], 0, [some (.inr [102]), some (.inl (.inl (.inl (0, .ofNat 0)))), none], []), ([], none), ([(.negSucc 0, .ofNat 7)], [], some (.inl (.inl (.inl (1, .ofNat 0)))), ([], [])), ([], []))
noncomputable def kC9001_0 : aC := (([(.ofNat 0, .ofNat 5), (.ofNat 0, .ofNat 8)], [], 2, [some (.inr [102]), some (.inl (.inl (.inl (0, .ofNat 0)))), some (.inl (.inl (.inl (1, .ofNat 0))))], []), ([], []), (8, [(-1, 1)]))
theorem ks9001 : aseg kS krf kB [] (ksp []) kE9001 [kC9001_0] 30000 (none) = true := by decide +kernel
theorem ks9001_0 : aseg kS krf kB [] (ksp []) kE9001 [kC9001_0] 30000 (some kC9001_0) = true := by decide +kernel
theorem kok9001 : aOK kS krf kB kE9001 := aOK_of kal0 (kcl1 ks9001_0 kcl0) ks9001
/-- ColdShodModel.ideaRather(II)Z -/
noncomputable def kE9002 : aE := (196, 0, ([(.ofNat 0, .ofNat 5), (.ofNat 0, .ofNat 5)], [], 0, [some (.inr [102]), some (.inl (.inl (.inl (0, .ofNat 0)))), some (.inl (.inl (.inl (1, .ofNat 0))))], []), ([], none), ([(.ofNat 0, .ofNat 1)], [], some (.inl (.inl (.inl (2, .ofNat 0)))), ([], [])), ([], []))
theorem ks9002 : aseg kS krf kB [] (ksp []) kE9002 [] 30000 (none) = true := by decide +kernel
theorem kok9002 : aOK kS krf kB kE9002 := aOK_of kal0 kcl0 ks9002
/-! BY HAND: allAsk (the reference's): what it uses. -/
theorem zT_cal {d mi pc a : Nat} {lo : List (Option Value)} {st : List Value} {h : zH} {as : List Value} {y : zC} {e : zI} {P Q : Option Value → zH → Prop} (hi : zi mi pc = some e) (hs : zstep e (pc, lo, st, h) = some (.inr (.inl (a, as, y)))) (hl : (zpad (zL a) (zargs as)).length = zL a) (hc : zT d a (0, zpad (zL a) (zargs as), [], h) Q) (hk : ∀ r h1, Q r h1 → zT (d + 1) mi (y.1, y.2.1, r.toList ++ y.2.2.1, h1) P) : zT (d + 1) mi (pc, lo, st, h) P := zT_call hi hs hl hc hk
theorem huse {e : aE} {E : List Int} {lo hi : Int} {pc : Nat} {ll : List (Option Value)} {st : List Value} {S1 : List (Nat × Nat)} {f : Nat → Nat → Int32} {g : Nat → Nat → Int64} {r : Nat → Nat → Option Nat} (he : aOK kS krf kB e) (hpost : e.2.2.2.2.1 = ([(lo, hi)], [], some (.inl (.inl (.inl (E.length, .ofNat 0)))), ([], []))) (hW : e.2.2.2.2.2 = ([], [])) (hsl : e.2.2.2.1 = ([], none)) (R : aRel kS krf (aiv kB) E e.2.2.1 (pc, ll, st, (S1, f, g, r))) (hj : aJ (S1, f, g, r)) : zT e.2.1 e.1 (pc, ll, st, (S1, f, g, r)) (fun res h1 => ∃ v r', res = some (.int v) ∧ lo ≤ v.toInt ∧ v.toInt ≤ hi ∧ h1 = (S1, f, g, r') ∧ aRf krf r') := by
  refine zT_mono (he E _ R (by rw [hsl]; exact fun f hf => by cases hf) (by rw [hsl]; exact fun k hk => by cases hk) hj) (fun res h1 hp => ?_)
  obtain ⟨q, p1, p2, p3, p4, p5, p6, p7⟩ := hp
  rw [hpost] at p1 p2
  rw [hW] at p6
  obtain ⟨S', f', g', r'⟩ := h1
  have ef : f' = f := funext (fun o => funext (fun k => p6.1 o k (show (!Nat.beq o 0 && false) = false from Bool.and_false _)))
  have eg : g' = g := p6.2.1 rfl
  have eS : S' = S1 := p6.2.2
  subst ef
  subst eg
  subst eS
  match q, p1, p2 with
  | [w], p1, p2 =>
    match res, p2 with
    | some u, p2 =>
      obtain ⟨v, rfl, w', g1, g2⟩ := p2
      rw [zget_end] at g1
      cases g1
      have b := p1.2 0 w (lo, hi) rfl rfl
      have g2 : v.toInt = w + 0 := g2
      exact ⟨v, r', rfl, by omega, by omega, rfl, p3.1.2.1⟩
  | [], p1, _ => cases p1.1
  | _ :: _ :: _, p1, _ => cases p1.1
section HU
variable {S1 : List (Nat × Nat)} {f : Nat → Nat → Int32} {g : Nat → Nat → Int64} {r : Nat → Nat → Option Nat} {p i o : Int32} {x k : Int32} {h : zH}
theorem hu_idea (hS : aShp kS S1) (hr : aRf krf r) (hb : hBd f) (hj : aJ (S1, f, g, r)) (p0 : 0 ≤ p.toInt) (p5 : p.toInt ≤ 5) : zT 1 197 (0, zpad (zL 197) (zargs [.ref 102, .int p]), [], (S1, f, g, r)) (fun res h1 => ∃ v r', res = some (.int v) ∧ (Int.negSucc 0) ≤ v.toInt ∧ v.toInt ≤ (Int.ofNat 7) ∧ h1 = (S1, f, g, r') ∧ aRf krf r') := by
  refine zT_deep (d := 0) (huse (e := kE9001) (E := [p.toInt]) kok9001 rfl rfl rfl ⟨⟨rfl, fun k w q h1 h2 => ?_⟩, rfl, ⟨rfl, fun i a ha => ?_⟩, trivial, ⟨hS, hr, hb⟩, fun o k a ha => by cases ha⟩ hj) (by omega)
  · match k, h1, h2 with
    | 0, h1, h2 =>
      cases h1
      cases h2
      simp only [Int.ofNat_eq_natCast]
      omega
  · match i, ha with
    | 0, ha => cases ha; exact ⟨_, rfl, 102, rfl, List.mem_singleton.mpr rfl⟩
    | 1, ha => cases ha; exact ⟨_, rfl, p, rfl, p.toInt, rfl, (Int.add_zero _).symm⟩
    | 2, ha => cases ha
    | n + 3, ha => cases ha
theorem hu_rather (hS : aShp kS S1) (hr : aRf krf r) (hb : hBd f) (hj : aJ (S1, f, g, r)) (p0 : 0 ≤ p.toInt) (p5 : p.toInt ≤ 5) (i0 : 0 ≤ i.toInt) (i5 : i.toInt ≤ 5) : zT 1 196 (0, zpad (zL 196) (zargs [.ref 102, .int p, .int i]), [], (S1, f, g, r)) (fun res h1 => ∃ v r', res = some (.int v) ∧ (Int.ofNat 0) ≤ v.toInt ∧ v.toInt ≤ (Int.ofNat 1) ∧ h1 = (S1, f, g, r') ∧ aRf krf r') := by
  refine zT_deep (d := 0) (huse (e := kE9002) (E := [p.toInt, i.toInt]) kok9002 rfl rfl rfl ⟨⟨rfl, fun k w q h1 h2 => ?_⟩, rfl, ⟨rfl, fun i a ha => ?_⟩, trivial, ⟨hS, hr, hb⟩, fun o k a ha => by cases ha⟩ hj) (by omega)
  · match k, h1, h2 with
    | 0, h1, h2 =>
      cases h1
      cases h2
      simp only [Int.ofNat_eq_natCast]
      omega
    | 1, h1, h2 =>
      cases h1
      cases h2
      simp only [Int.ofNat_eq_natCast]
      omega
  · match i, ha with
    | 0, ha => cases ha; exact ⟨_, rfl, 102, rfl, List.mem_singleton.mpr rfl⟩
    | 1, ha => cases ha; exact ⟨_, rfl, _, rfl, _, rfl, (Int.add_zero _).symm⟩
    | 2, ha => cases ha; exact ⟨_, rfl, _, rfl, _, rfl, (Int.add_zero _).symm⟩
    | n + 3, ha => cases ha
theorem hu_head (hS : aShp kS S1) (hr : aRf krf r) (hb : hBd f) (hj : aJ (S1, f, g, r)) (p0 : 0 ≤ p.toInt) (p5 : p.toInt ≤ 5) (i0 : 0 ≤ i.toInt) (i7 : i.toInt ≤ 7) (o0 : 0 ≤ o.toInt) (o7 : o.toInt ≤ 7) : zT 1 195 (0, zpad (zL 195) (zargs [.ref 102, .int p, .int i, .int o]), [], (S1, f, g, r)) (fun res h1 => ∃ v r', res = some (.int v) ∧ (Int.ofNat 0) ≤ v.toInt ∧ v.toInt ≤ (Int.ofNat 1) ∧ h1 = (S1, f, g, r') ∧ aRf krf r') := by
  refine huse (e := kE9000) (E := [p.toInt, i.toInt, o.toInt]) kok9000 rfl rfl rfl ⟨⟨rfl, fun k w q h1 h2 => ?_⟩, rfl, ⟨rfl, fun i a ha => ?_⟩, trivial, ⟨hS, hr, hb⟩, fun o k a ha => by cases ha⟩ hj
  · match k, h1, h2 with
    | 0, h1, h2 =>
      cases h1
      cases h2
      simp only [Int.ofNat_eq_natCast]
      omega
    | 1, h1, h2 =>
      cases h1
      cases h2
      simp only [Int.ofNat_eq_natCast]
      omega
    | 2, h1, h2 =>
      cases h1
      cases h2
      simp only [Int.ofNat_eq_natCast]
      omega
  · match i, ha with
    | 0, ha => cases ha; exact ⟨_, rfl, 102, rfl, List.mem_singleton.mpr rfl⟩
    | 1, ha => cases ha; exact ⟨_, rfl, _, rfl, _, rfl, (Int.add_zero _).symm⟩
    | 2, ha => cases ha; exact ⟨_, rfl, _, rfl, _, rfl, (Int.add_zero _).symm⟩
    | 3, ha => cases ha; exact ⟨_, rfl, _, rfl, _, rfl, (Int.add_zero _).symm⟩
    | 4, ha => cases ha
    | 5, ha => cases ha
    | n + 6, ha => cases ha
theorem hu_isin : zT 1 144 (0, zpad (zL 144) (zargs [.int x, .int k]), [], h) (fun res h1 => h1 = h ∧ ((zbin 3 (zbin 7 x k) 1 = 1 ∧ res = some (.int 1)) ∨ (zbin 3 (zbin 7 x k) 1 ≠ 1 ∧ res = some (.int 0)))) := by
  show zT 1 144 (0, [some (.int x), some (.int k)], [], h) _
  refine zT_stp (pc := 0) (e := (1, 1, 0, 0, 0, .null, [])) rfl rfl ?_
  refine zT_stp (pc := 1) (e := (1, 1, 1, 0, 0, .null, [])) rfl rfl ?_
  refine zT_stp (pc := 2) (e := (7, 1, 0, 7, 0, .null, [])) rfl rfl ?_
  refine zT_stp (pc := 3) (e := (0, 1, 0, 0, 0, .int 1, [])) rfl rfl ?_
  refine zT_stp (pc := 4) (e := (7, 1, 0, 3, 0, .null, [])) rfl rfl ?_
  refine zT_stp (pc := 5) (e := (0, 1, 0, 0, 0, .int 1, [])) rfl rfl ?_
  by_cases hq : zbin 3 (zbin 7 x k) 1 = 1
  · refine zT_stp (pc := 6) (e := (16, 3, 13, 1, 0, .null, [])) (y := (9, [some (.int x), some (.int k)], [], h)) rfl ?_ ?_
    · show some (Sum.inl (zicmp 1 (zbin 3 (zbin 7 x k) 1) 1 13 9, _, _, _)) = _
      rw [show zicmp 1 (zbin 3 (zbin 7 x k) 1) 1 13 9 = 9 from if_pos hq]
    refine zT_stp (pc := 9) (e := (0, 1, 0, 0, 0, .int 1, [])) rfl rfl ?_
    refine zT_stp (pc := 10) (e := (17, 3, 14, 0, 0, .null, [])) rfl rfl ?_
    refine zT_rtn (pc := 14) (e := (35, 1, 0, 0, 1, .null, [])) rfl rfl ?_
    exact ⟨rfl, Or.inl ⟨hq, rfl⟩⟩
  · refine zT_stp (pc := 6) (e := (16, 3, 13, 1, 0, .null, [])) (y := (13, [some (.int x), some (.int k)], [], h)) rfl ?_ ?_
    · show some (Sum.inl (zicmp 1 (zbin 3 (zbin 7 x k) 1) 1 13 9, _, _, _)) = _
      rw [show zicmp 1 (zbin 3 (zbin 7 x k) 1) 1 13 9 = 13 from if_neg hq]
    refine zT_stp (pc := 13) (e := (0, 1, 0, 0, 0, .int 0, [])) rfl rfl ?_
    refine zT_rtn (pc := 14) (e := (35, 1, 0, 0, 1, .null, [])) rfl rfl ?_
    exact ⟨rfl, Or.inr ⟨hq, rfl⟩⟩
end HU
theorem hbit1 : (List.range 256).all (fun x => (List.range 8).all (fun b => decide (zbin 3 (zbin 7 (Int32.ofNat x) (Int32.ofNat b)) 1 = 1) || (ile (Int.ofNat (x + 1)) (zbin 4 (Int32.ofNat x) (zbin 6 1 (Int32.ofNat b))).toInt && ile (zbin 4 (Int32.ofNat x) (zbin 6 1 (Int32.ofNat b))).toInt (Int.ofNat 255)))) = true := by decide +kernel
theorem hofn {x : Int32} (h0 : 0 ≤ x.toInt) (h1 : x.toInt ≤ 3072) : Int32.ofNat x.toInt.toNat = x := by
  rw [← Int32.toInt_inj, na_ofn (by omega)]
  omega
theorem hbit {x b : Int32} (x0 : 0 ≤ x.toInt) (x1 : x.toInt ≤ 255) (b0 : 0 ≤ b.toInt) (b1 : b.toInt ≤ 7) (hn : zbin 3 (zbin 7 x b) 1 ≠ 1) : x.toInt + 1 ≤ (zbin 4 x (zbin 6 1 b)).toInt ∧ (zbin 4 x (zbin 6 1 b)).toInt ≤ 255 := by
  have h := List.all_eq_true.mp (List.all_eq_true.mp hbit1 x.toInt.toNat (List.mem_range.mpr (by omega))) b.toInt.toNat (List.mem_range.mpr (by omega))
  rw [hofn x0 (by omega), hofn b0 (by omega), Bool.or_eq_true, decide_eq_true_eq, Bool.and_eq_true, ile_eq, ile_eq] at h
  rcases h with h | h
  · exact absurd h hn
  · simp only [Int.ofNat_eq_natCast] at h
    omega
/-- how much was asked, all together -/
noncomputable def hUf (f : Nat → Nat → Int32) : Int := (f 117 0).toInt + ((f 117 1).toInt + ((f 117 2).toInt + ((f 117 3).toInt + ((f 117 4).toInt + (f 117 5).toInt))))
theorem hUf_up {f : Nat → Nat → Int32} {v : Int32} : ∀ {k : Nat}, k < 6 → hUf (zup f 117 k v) = hUf f + (v.toInt - (f 117 k).toInt)
  | 0, _ => by
    unfold hUf
    rw [zsame_up, zne_up (show ¬ (117 = 117 ∧ 1 = 0) by omega), zne_up (show ¬ (117 = 117 ∧ 2 = 0) by omega), zne_up (show ¬ (117 = 117 ∧ 3 = 0) by omega), zne_up (show ¬ (117 = 117 ∧ 4 = 0) by omega), zne_up (show ¬ (117 = 117 ∧ 5 = 0) by omega)]
    omega
  | 1, _ => by
    unfold hUf
    rw [zne_up (show ¬ (117 = 117 ∧ 0 = 1) by omega), zsame_up, zne_up (show ¬ (117 = 117 ∧ 2 = 1) by omega), zne_up (show ¬ (117 = 117 ∧ 3 = 1) by omega), zne_up (show ¬ (117 = 117 ∧ 4 = 1) by omega), zne_up (show ¬ (117 = 117 ∧ 5 = 1) by omega)]
    omega
  | 2, _ => by
    unfold hUf
    rw [zne_up (show ¬ (117 = 117 ∧ 0 = 2) by omega), zne_up (show ¬ (117 = 117 ∧ 1 = 2) by omega), zsame_up, zne_up (show ¬ (117 = 117 ∧ 3 = 2) by omega), zne_up (show ¬ (117 = 117 ∧ 4 = 2) by omega), zne_up (show ¬ (117 = 117 ∧ 5 = 2) by omega)]
    omega
  | 3, _ => by
    unfold hUf
    rw [zne_up (show ¬ (117 = 117 ∧ 0 = 3) by omega), zne_up (show ¬ (117 = 117 ∧ 1 = 3) by omega), zne_up (show ¬ (117 = 117 ∧ 2 = 3) by omega), zsame_up, zne_up (show ¬ (117 = 117 ∧ 4 = 3) by omega), zne_up (show ¬ (117 = 117 ∧ 5 = 3) by omega)]
    omega
  | 4, _ => by
    unfold hUf
    rw [zne_up (show ¬ (117 = 117 ∧ 0 = 4) by omega), zne_up (show ¬ (117 = 117 ∧ 1 = 4) by omega), zne_up (show ¬ (117 = 117 ∧ 2 = 4) by omega), zne_up (show ¬ (117 = 117 ∧ 3 = 4) by omega), zsame_up, zne_up (show ¬ (117 = 117 ∧ 5 = 4) by omega)]
    omega
  | 5, _ => by
    unfold hUf
    rw [zne_up (show ¬ (117 = 117 ∧ 0 = 5) by omega), zne_up (show ¬ (117 = 117 ∧ 1 = 5) by omega), zne_up (show ¬ (117 = 117 ∧ 2 = 5) by omega), zne_up (show ¬ (117 = 117 ∧ 3 = 5) by omega), zne_up (show ¬ (117 = 117 ∧ 4 = 5) by omega), zsame_up]
    omega
  | n + 6, h => by omega
theorem hUf_ne {f : Nat → Nat → Int32} {o k : Nat} {v : Int32} (ho : o ≠ 117) : hUf (zup f o k v) = hUf f := by
  unfold hUf
  rw [zne_up (fun q => ho q.1.symm), zne_up (fun q => ho q.1.symm), zne_up (fun q => ho q.1.symm), zne_up (fun q => ho q.1.symm), zne_up (fun q => ho q.1.symm), zne_up (fun q => ho q.1.symm)]
theorem hUf_le {f : Nat → Nat → Int32} (hb : hBd f) : hUf f ≤ 1530 := by
  have c : ∀ k, aiv kB 117 k = (0, 255) := fun _ => rfl
  have b0 := hb 117 0
  have b1 := hb 117 1
  have b2 := hb 117 2
  have b3 := hb 117 3
  have b4 := hb 117 4
  have b5 := hb 117 5
  rw [c] at b0 b1 b2 b3 b4 b5
  dsimp only at b0 b1 b2 b3 b4 b5
  unfold hUf
  omega
/-! BY HAND: allAsk: its loops. -/
noncomputable def hallE : aE := (198, 2, ([], [], 0, [some (.inr [102]), none, none, none, none], []), ([], none), ([], [], none, ([], [])), ([], [116, 117]))
/-- bounds hold, and nothing but rows 116 and 117 is changed -/
noncomputable def hIv (f0 f : Nat → Nat → Int32) : Prop := hBd f ∧ ∀ o k, o ≠ 116 → o ≠ 117 → f o k = f0 o k
/-- the best so far is none, or one that was not asked -/
noncomputable def hBs (x b : Int32) : Prop := b.toInt = -1 ∨ (0 ≤ b.toInt ∧ b.toInt ≤ 7 ∧ zbin 3 (zbin 7 x b) 1 ≠ 1)
section HA
variable {S1 : List (Nat × Nat)} {f0 f : Nat → Nat → Int32} {g : Nat → Nat → Int64} {r0 : Nat → Nat → Option Nat} {p go : Int32} {P : Option Value → zH → Prop}
theorem hcall2 {len a pc : Nat} {lo : List (Option Value)} {st : List Value} {x : Int32} {ff : Nat → Nat → Int32} {r : Nat → Nat → Option Nat} (h0 : zget S1 102 = some (22, 49)) (hc : Nat.ble (zcat st) 8 = true) : zs32 len a 2 0 12 (pc, lo, .int x :: .ref 102 :: st, (S1, ff, g, r)) = some (.inr (.inl (a, [.ref 102, .int x], (pc + len, lo, st, (S1, ff, g, r))))) := by
  simp only [zs32, ztake]
  rw [hc, h0]
  rfl
theorem hcall3 {len a pc : Nat} {lo : List (Option Value)} {st : List Value} {x y : Int32} {ff : Nat → Nat → Int32} {r : Nat → Nat → Option Nat} (h0 : zget S1 102 = some (22, 49)) (hc : Nat.ble (zcat st) 8 = true) : zs32 len a 3 0 12 (pc, lo, .int y :: .int x :: .ref 102 :: st, (S1, ff, g, r)) = some (.inr (.inl (a, [.ref 102, .int x, .int y], (pc + len, lo, st, (S1, ff, g, r))))) := by
  simp only [zs32, ztake]
  rw [hc, h0]
  rfl
theorem hcall4 {len a pc : Nat} {lo : List (Option Value)} {st : List Value} {x y z : Int32} {ff : Nat → Nat → Int32} {r : Nat → Nat → Option Nat} (h0 : zget S1 102 = some (22, 49)) (hc : Nat.ble (zcat st) 8 = true) : zs32 len a 4 0 12 (pc, lo, .int z :: .int y :: .int x :: .ref 102 :: st, (S1, ff, g, r)) = some (.inr (.inl (a, [.ref 102, .int x, .int y, .int z], (pc + len, lo, st, (S1, ff, g, r))))) := by
  simp only [zs32, ztake]
  rw [hc, h0]
  rfl
theorem hall_i (hS : aShp kS S1) (hb : hBd f) (hj : ∀ r, aJ (S1, f, g, r)) (p0 : 0 ≤ p.toInt) (p5 : p.toInt ≤ 5) (K : ∀ (best : Int32) (r : Nat → Nat → Option Nat) (l4 : Option Value), aRf krf r → hBs (f 117 (zix p)) best → zT 2 198 (120, [some (.ref 102), some (.int go), some (.int p), some (.int best), l4], [], (S1, f, g, r)) P) : ∀ (n : Nat) (i best : Int32) (r : Nat → Nat → Option Nat), aRf krf r → hBs (f 117 (zix p)) best → i.toInt = 8 - (n : Int) → n ≤ 8 → zT 2 198 (69, [some (.ref 102), some (.int go), some (.int p), some (.int best), some (.int i)], [], (S1, f, g, r)) P := by
  have h0 : zget S1 102 = some (22, 49) := hS 102 22 49 rfl rfl
  have h117 : zget S1 117 = some (0, 6) := hS 117 0 6 rfl rfl
  have zp := azix (i := p) p0
  have i6 : Nat.blt (zix p) 6 = true := by rw [Nat.blt_eq]; omega
  have bi := hb 102 7
  rw [show aiv kB 102 7 = (0, 8) from rfl] at bi
  dsimp only at bi
  have z1 : (1 : Int32).toInt = 1 := rfl
  have z0 : (0 : Int32).toInt = 0 := rfl
  intro n
  induction n with
  | zero =>
    intro i best r hr hbs hi hn
    refine zT_stp (pc := 69) (e := (1, 2, 4, 0, 0, .null, [])) rfl rfl ?_
    refine zT_stp (pc := 71) (e := (3, 1, 0, 0, 0, .null, [])) rfl rfl ?_
    refine zT_stp (pc := 72) (e := (20, 3, 12, 7, 0, .null, [(0, 1060)])) rfl (hgi h0 rfl) ?_
    refine zT_stp (pc := 75) (e := (16, 3, 120, 3, 0, .null, [])) (y := (120, [some (.ref 102), some (.int go), some (.int p), some (.int best), some (.int i)], [], (S1, f, g, r))) rfl ?_ ?_
    · show some (Sum.inl (zicmp 3 i (f 102 7) 120 78, _, _, _)) = _
      rw [show zicmp 3 i (f 102 7) 120 78 = 120 from if_neg (fun w => by have := Int32.lt_iff_toInt_lt.mp w; omega)]
    exact K best r _ hr hbs
  | succ n ih =>
    intro i best r hr hbs hi hn
    have ep : (i + 1).toInt = i.toInt + 1 := by
      rw [na_add (by rw [z1]; omega) (by rw [z1]; omega), z1]
    refine zT_stp (pc := 69) (e := (1, 2, 4, 0, 0, .null, [])) rfl rfl ?_
    refine zT_stp (pc := 71) (e := (3, 1, 0, 0, 0, .null, [])) rfl rfl ?_
    refine zT_stp (pc := 72) (e := (20, 3, 12, 7, 0, .null, [(0, 1060)])) rfl (hgi h0 rfl) ?_
    by_cases hq : i < f 102 7
    · have hq' := Int32.lt_iff_toInt_lt.mp hq
      refine zT_stp (pc := 75) (e := (16, 3, 120, 3, 0, .null, [])) (y := (78, [some (.ref 102), some (.int go), some (.int p), some (.int best), some (.int i)], [], (S1, f, g, r))) rfl ?_ ?_
      · show some (Sum.inl (zicmp 3 i (f 102 7) 120 78, _, _, _)) = _
        rw [show zicmp 3 i (f 102 7) 120 78 = 78 from if_pos hq]
      have t112 : ∀ r, aRf krf r → zT 2 198 (112, [some (.ref 102), some (.int go), some (.int p), some (.int best), some (.int i)], [], (S1, f, g, r)) P := by
        intro r hr
        refine zT_stp (pc := 112) (e := (1, 1, 3, 0, 0, .null, [])) rfl rfl ?_
        refine zT_stp (pc := 113) (e := (4, 1, 3, 0, 0, .null, [])) rfl rfl ?_
        refine zT_stp (pc := 114) (e := (19, 3, 4, 0, 0, .int 1, [])) rfl rfl ?_
        refine zT_stp (pc := 117) (e := (17, 3, 69, 0, 0, .null, [])) rfl rfl ?_
        exact ih (i + 1) best r hr hbs (by omega) (by omega)
      have q32 : r 102 32 = some 117 := href hr rfl
      refine zT_stp (pc := 78) (e := (3, 1, 0, 0, 0, .null, [])) rfl rfl ?_
      refine zT_stp (pc := 79) (e := (20, 3, 12, 32, 1, .null, [(0, 1044)])) rfl (hgr h0 rfl q32) ?_
      refine zT_stp (pc := 82) (e := (1, 1, 2, 0, 0, .null, [])) rfl rfl ?_
      refine zT_stp (pc := 83) (e := (22, 1, 0, 0, 0, .null, [])) rfl (hil h117 i6) ?_
      refine zT_stp (pc := 84) (e := (1, 2, 4, 0, 0, .null, [])) rfl rfl ?_
      refine zT_cal (pc := 86) (e := (32, 3, 144, 2, 49, .null, [(0, 1119)])) rfl rfl rfl hu_isin ?_
      rintro res h1 ⟨rfl, ⟨hin, rfl⟩ | ⟨hin, rfl⟩⟩
      · show zT 2 198 (89, [some (.ref 102), some (.int go), some (.int p), some (.int best), some (.int i)], [.int 1], (S1, f, g, r)) P
        refine zT_stp (pc := 89) (e := (15, 3, 112, 1, 0, .null, [])) rfl rfl ?_
        exact t112 r hr
      · show zT 2 198 (89, [some (.ref 102), some (.int go), some (.int p), some (.int best), some (.int i)], [.int 0], (S1, f, g, r)) P
        have t107 : ∀ r, aRf krf r → zT 2 198 (107, [some (.ref 102), some (.int go), some (.int p), some (.int best), some (.int i)], [], (S1, f, g, r)) P := by
          intro r hr
          refine zT_stp (pc := 107) (e := (1, 2, 4, 0, 0, .null, [])) rfl rfl ?_
          refine zT_stp (pc := 109) (e := (17, 3, 113, 0, 0, .null, [])) rfl rfl ?_
          refine zT_stp (pc := 113) (e := (4, 1, 3, 0, 0, .null, [])) rfl rfl ?_
          refine zT_stp (pc := 114) (e := (19, 3, 4, 0, 0, .int 1, [])) rfl rfl ?_
          refine zT_stp (pc := 117) (e := (17, 3, 69, 0, 0, .null, [])) rfl rfl ?_
          exact ih (i + 1) i r hr (Or.inr ⟨by omega, by omega, hin⟩) (by omega) (by omega)
        refine zT_stp (pc := 89) (e := (15, 3, 112, 1, 0, .null, [])) rfl rfl ?_
        refine zT_stp (pc := 92) (e := (1, 1, 3, 0, 0, .null, [])) rfl rfl ?_
        by_cases hneg : best < 0
        · refine zT_stp (pc := 93) (e := (15, 3, 107, 2, 0, .null, [])) (y := (107, [some (.ref 102), some (.int go), some (.int p), some (.int best), some (.int i)], [], (S1, f, g, r))) rfl ?_ ?_
          · show some (Sum.inl (zif 2 best 107 96, _, _, _)) = _
            rw [show zif 2 best 107 96 = 107 from if_pos hneg]
          exact t107 r hr
        · have hneg' : ¬ best.toInt < 0 := fun w => hneg (Int32.lt_iff_toInt_lt.mpr (by rw [z0]; exact w))
          refine zT_stp (pc := 93) (e := (15, 3, 107, 2, 0, .null, [])) (y := (96, [some (.ref 102), some (.int go), some (.int p), some (.int best), some (.int i)], [], (S1, f, g, r))) rfl ?_ ?_
          · show some (Sum.inl (zif 2 best 107 96, _, _, _)) = _
            rw [show zif 2 best 107 96 = 96 from if_neg hneg]
          have hb2 : 0 ≤ best.toInt ∧ best.toInt ≤ 7 := by
            rcases hbs with w | w
            · omega
            · exact ⟨w.1, w.2.1⟩
          refine zT_stp (pc := 96) (e := (3, 1, 0, 0, 0, .null, [])) rfl rfl ?_
          refine zT_stp (pc := 97) (e := (1, 1, 2, 0, 0, .null, [])) rfl rfl ?_
          refine zT_stp (pc := 98) (e := (1, 2, 4, 0, 0, .null, [])) rfl rfl ?_
          refine zT_stp (pc := 100) (e := (1, 1, 3, 0, 0, .null, [])) rfl rfl ?_
          refine zT_cal (pc := 101) (e := (32, 3, 195, 4, 48, .null, [(0, 1122)])) (y := (104, [some (.ref 102), some (.int go), some (.int p), some (.int best), some (.int i)], [], (S1, f, g, r))) rfl (show zs32 3 195 4 0 12 (101, [some (.ref 102), some (.int go), some (.int p), some (.int best), some (.int i)], [.int best, .int i, .int p, .ref 102], (S1, f, g, r)) = _ from hcall4 (st := []) h0 rfl) rfl (hu_head hS hr hb (hj r) p0 p5 (by omega) (by omega) hb2.1 hb2.2) ?_
          rintro res h1 ⟨v, r', rfl, w1, w2, rfl, hr'⟩
          show zT 2 198 (104, [some (.ref 102), some (.int go), some (.int p), some (.int best), some (.int i)], [.int v], (S1, f, g, r')) P
          by_cases hv : v = 0
          · refine zT_stp (pc := 104) (e := (15, 3, 112, 0, 0, .null, [])) (y := (112, [some (.ref 102), some (.int go), some (.int p), some (.int best), some (.int i)], [], (S1, f, g, r'))) rfl ?_ ?_
            · show some (Sum.inl (zif 0 v 112 107, _, _, _)) = _
              rw [show zif 0 v 112 107 = 112 from if_pos hv]
            exact t112 r' hr'
          · refine zT_stp (pc := 104) (e := (15, 3, 112, 0, 0, .null, [])) (y := (107, [some (.ref 102), some (.int go), some (.int p), some (.int best), some (.int i)], [], (S1, f, g, r'))) rfl ?_ ?_
            · show some (Sum.inl (zif 0 v 112 107, _, _, _)) = _
              rw [show zif 0 v 112 107 = 107 from if_neg hv]
            exact t107 r' hr'
    · refine zT_stp (pc := 75) (e := (16, 3, 120, 3, 0, .null, [])) (y := (120, [some (.ref 102), some (.int go), some (.int p), some (.int best), some (.int i)], [], (S1, f, g, r))) rfl ?_ ?_
      · show some (Sum.inl (zicmp 3 i (f 102 7) 120 78, _, _, _)) = _
        rw [show zicmp 3 i (f 102 7) 120 78 = 120 from if_neg hq]
      exact K best r _ hr hbs
end HA
/-! BY HAND: allAsk: the loop over heads, the loop while one asks, the whole. -/
section HA2
variable {S1 : List (Nat × Nat)} {f0 : Nat → Nat → Int32} {g : Nat → Nat → Int64} {P : Option Value → zH → Prop}
theorem hIv_J {f : Nat → Nat → Int32} {r0 r : Nat → Nat → Option Nat} (hj : aJ (S1, f0, g, r0)) (hv : hIv f0 f) : aJ (S1, f, g, r) := by
  have e : ∀ o k, o ≠ 116 → o ≠ 117 → f o k = f0 o k := hv.2
  refine ⟨?_, fun k hk => ?_⟩
  · show (f 102 5).toInt ≤ (f 102 4).toInt
    rw [e 102 5 (by omega) (by omega), e 102 4 (by omega) (by omega)]
    exact hj.1
  · show 60 ≤ (f 104 k).toInt → (f 104 k).toInt ≤ 67 → (f 105 k).toInt ≤ 5 ∧ (f 106 k).toInt ≤ 5
    rw [e 104 k (by omega) (by omega), e 105 k (by omega) (by omega), e 106 k (by omega) (by omega)]
    exact hj.2 k hk
theorem hIv_up {f : Nat → Nat → Int32} {o k : Nat} {x : Int32} (hv : hIv f0 f) (ho : o = 116 ∨ o = 117) (h1 : (aiv kB o k).1 ≤ x.toInt) (h2 : x.toInt ≤ (aiv kB o k).2) : hIv f0 (zup f o k x) := by
  refine ⟨hupb hv.1 h1 h2, fun o' k' a b => ?_⟩
  rw [zne_up (fun q => by omega)]
  exact hv.2 o' k' a b
theorem hall_p {r0 : Nat → Nat → Option Nat} {N : Int} (hS : aShp kS S1) (hj : aJ (S1, f0, g, r0)) (K : ∀ (f : Nat → Nat → Int32) (r : Nat → Nat → Option Nat) (go : Int32) (l2 l3 l4 : Option Value), hIv f0 f → aRf krf r → (go = 0 ∨ (go = 1 ∧ 1530 - hUf f < N)) → zT 2 198 (48, [some (.ref 102), some (.int go), l2, l3, l4], [], (S1, f, g, r)) P) : ∀ (m : Nat) (f : Nat → Nat → Int32) (r : Nat → Nat → Option Nat) (go p : Int32) (l3 l4 : Option Value), hIv f0 f → aRf krf r → ((go = 0 ∧ 1530 - hUf f ≤ N) ∨ (go = 1 ∧ 1530 - hUf f < N)) → p.toInt = 6 - (m : Int) → m ≤ 6 → zT 2 198 (56, [some (.ref 102), some (.int go), some (.int p), l3, l4], [], (S1, f, g, r)) P := by
  have h0 : zget S1 102 = some (22, 49) := hS 102 22 49 rfl rfl
  have h116 : zget S1 116 = some (0, 8) := hS 116 0 8 rfl rfl
  have h117 : zget S1 117 = some (0, 6) := hS 117 0 6 rfl rfl
  have z1 : (1 : Int32).toInt = 1 := rfl
  have z0 : (0 : Int32).toInt = 0 := rfl
  have zm : (-1 : Int32).toInt = -1 := rfl
  have c6 : ∀ k, aiv kB 116 k = (-1, 5) := fun _ => rfl
  have c7 : ∀ k, aiv kB 117 k = (0, 255) := fun _ => rfl
  have ex : ∀ (f : Nat → Nat → Int32) (r : Nat → Nat → Option Nat) (go p : Int32) (l3 l4 : Option Value), hIv f0 f → aRf krf r → ((go = 0 ∧ 1530 - hUf f ≤ N) ∨ (go = 1 ∧ 1530 - hUf f < N)) → zT 2 198 (191, [some (.ref 102), some (.int go), some (.int p), l3, l4], [], (S1, f, g, r)) P := by
    intro f r go p l3 l4 hv hr hc
    refine zT_stp (pc := 191) (e := (17, 3, 48, 0, 0, .null, [])) rfl rfl ?_
    refine K f r go _ _ _ hv hr ?_
    rcases hc with w | w
    · exact Or.inl w.1
    · exact Or.inr w
  intro m
  induction m with
  | zero =>
    intro f r go p l3 l4 hv hr hc hp hm
    have bh := hv.1 102 6
    rw [show aiv kB 102 6 = (0, 6) from rfl] at bh
    dsimp only at bh
    refine zT_stp (pc := 56) (e := (1, 1, 2, 0, 0, .null, [])) rfl rfl ?_
    refine zT_stp (pc := 57) (e := (3, 1, 0, 0, 0, .null, [])) rfl rfl ?_
    refine zT_stp (pc := 58) (e := (20, 3, 12, 6, 0, .null, [(0, 1058)])) rfl (hgi h0 rfl) ?_
    refine zT_stp (pc := 61) (e := (16, 3, 191, 3, 0, .null, [])) (y := (191, [some (.ref 102), some (.int go), some (.int p), l3, l4], [], (S1, f, g, r))) rfl ?_ ?_
    · show some (Sum.inl (zicmp 3 p (f 102 6) 191 64, _, _, _)) = _
      rw [show zicmp 3 p (f 102 6) 191 64 = 191 from if_neg (fun w => by have := Int32.lt_iff_toInt_lt.mp w; omega)]
    exact ex f r go p _ _ hv hr hc
  | succ m ih =>
    intro f r go p l3 l4 hv hr hc hp hm
    have bh := hv.1 102 6
    rw [show aiv kB 102 6 = (0, 6) from rfl] at bh
    dsimp only at bh
    have ep : (p + 1).toInt = p.toInt + 1 := by
      rw [na_add (by rw [z1]; omega) (by rw [z1]; omega), z1]
    refine zT_stp (pc := 56) (e := (1, 1, 2, 0, 0, .null, [])) rfl rfl ?_
    refine zT_stp (pc := 57) (e := (3, 1, 0, 0, 0, .null, [])) rfl rfl ?_
    refine zT_stp (pc := 58) (e := (20, 3, 12, 6, 0, .null, [(0, 1058)])) rfl (hgi h0 rfl) ?_
    by_cases hq : p < f 102 6
    · refine zT_stp (pc := 61) (e := (16, 3, 191, 3, 0, .null, [])) (y := (64, [some (.ref 102), some (.int go), some (.int p), l3, l4], [], (S1, f, g, r))) rfl ?_ ?_
      · show some (Sum.inl (zicmp 3 p (f 102 6) 191 64, _, _, _)) = _
        rw [show zicmp 3 p (f 102 6) 191 64 = 64 from if_pos hq]
      have zp := azix (i := p) (by omega)
      have i6 : Nat.blt (zix p) 6 = true := by rw [Nat.blt_eq]; omega
      refine zT_stp (pc := 64) (e := (0, 1, 0, 0, 0, .int (-1), [])) rfl rfl ?_
      refine zT_stp (pc := 65) (e := (4, 1, 3, 0, 0, .null, [])) rfl rfl ?_
      refine zT_stp (pc := 66) (e := (0, 1, 0, 0, 0, .int 0, [])) rfl rfl ?_
      refine zT_stp (pc := 67) (e := (4, 2, 4, 0, 0, .null, [])) rfl rfl ?_
      refine hall_i (go := go) hS hv.1 (fun r => hIv_J hj hv) (by omega) (by omega) ?_ 8 0 (-1) r hr (Or.inl zm) rfl (by omega)
      intro best r l4 hr hbs
      have nx : ∀ (f : Nat → Nat → Int32) (r : Nat → Nat → Option Nat) (go : Int32) (l3 l4 : Option Value), hIv f0 f → aRf krf r → ((go = 0 ∧ 1530 - hUf f ≤ N) ∨ (go = 1 ∧ 1530 - hUf f < N)) → zT 2 198 (185, [some (.ref 102), some (.int go), some (.int p), l3, l4], [], (S1, f, g, r)) P := by
        intro f r go l3 l4 hv hr hc
        refine zT_stp (pc := 185) (e := (19, 3, 2, 0, 0, .int 1, [])) rfl rfl ?_
        refine zT_stp (pc := 188) (e := (17, 3, 56, 0, 0, .null, [])) rfl rfl ?_
        exact ih f r go (p + 1) l3 l4 hv hr hc (by omega) (by omega)
      refine zT_stp (pc := 120) (e := (3, 1, 0, 0, 0, .null, [])) rfl rfl ?_
      refine zT_stp (pc := 121) (e := (1, 1, 2, 0, 0, .null, [])) rfl rfl ?_
      refine zT_cal (pc := 122) (e := (32, 3, 197, 2, 48, .null, [(0, 1123)])) (y := (125, [some (.ref 102), some (.int go), some (.int p), some (.int best), l4], [], (S1, f, g, r))) rfl (show zs32 3 197 2 0 12 (122, [some (.ref 102), some (.int go), some (.int p), some (.int best), l4], [.int p, .ref 102], (S1, f, g, r)) = _ from hcall2 (st := []) h0 rfl) rfl (hu_idea hS hr hv.1 (hIv_J hj hv) (by omega) (by omega)) ?_
      rintro res h1 ⟨v, r', rfl, w1, w2, rfl, hr'⟩
      show zT 2 198 (125, [some (.ref 102), some (.int go), some (.int p), some (.int best), l4], [.int v], (S1, f, g, r')) P
      by_cases hv0 : v < 0
      · refine zT_stp (pc := 125) (e := (15, 3, 185, 3, 0, .null, [])) (y := (128, [some (.ref 102), some (.int go), some (.int p), some (.int best), l4], [], (S1, f, g, r'))) rfl ?_ ?_
        · show some (Sum.inl (zif 3 v 185 128, _, _, _)) = _
          rw [show zif 3 v 185 128 = 128 from if_pos hv0]
        refine zT_stp (pc := 128) (e := (1, 1, 3, 0, 0, .null, [])) rfl rfl ?_
        by_cases hb0 : best < 0
        · refine zT_stp (pc := 129) (e := (15, 3, 185, 2, 0, .null, [])) (y := (185, [some (.ref 102), some (.int go), some (.int p), some (.int best), l4], [], (S1, f, g, r'))) rfl ?_ ?_
          · show some (Sum.inl (zif 2 best 185 132, _, _, _)) = _
            rw [show zif 2 best 185 132 = 185 from if_pos hb0]
          exact nx f r' go _ _ hv hr' hc
        · have hb0' : ¬ best.toInt < 0 := fun w => hb0 (Int32.lt_iff_toInt_lt.mpr (by rw [z0]; exact w))
          refine zT_stp (pc := 129) (e := (15, 3, 185, 2, 0, .null, [])) (y := (132, [some (.ref 102), some (.int go), some (.int p), some (.int best), l4], [], (S1, f, g, r'))) rfl ?_ ?_
          · show some (Sum.inl (zif 2 best 185 132, _, _, _)) = _
            rw [show zif 2 best 185 132 = 132 from if_neg hb0]
          have hb2 : 0 ≤ best.toInt ∧ best.toInt ≤ 7 ∧ zbin 3 (zbin 7 (f 117 (zix p)) best) 1 ≠ 1 := by
            rcases hbs with w | w
            · omega
            · exact w
          have bx := hv.1 117 (zix p)
          rw [c7] at bx
          dsimp only at bx
          have hbt := hbit bx.1 bx.2 hb2.1 hb2.2.1 hb2.2.2
          have zb := azix (i := best) hb2.1
          have i8 : Nat.blt (zix best) 8 = true := by rw [Nat.blt_eq]; omega
          have q31 : ∀ r, aRf krf r → r 102 31 = some 116 := fun r hr => href hr rfl
          have q32 : r' 102 32 = some 117 := href hr' rfl
          refine zT_stp (pc := 132) (e := (0, 1, 0, 0, 0, .int 1, [])) rfl rfl ?_
          refine zT_stp (pc := 133) (e := (4, 1, 1, 0, 0, .null, [])) rfl rfl ?_
          refine zT_stp (pc := 134) (e := (3, 1, 0, 0, 0, .null, [])) rfl rfl ?_
          refine zT_stp (pc := 135) (e := (20, 3, 12, 32, 1, .null, [(0, 1044)])) rfl (hgr h0 rfl q32) ?_
          refine zT_stp (pc := 138) (e := (1, 1, 2, 0, 0, .null, [])) rfl rfl ?_
          refine zT_stp (pc := 139) (e := (41, 1, 0, 0, 0, .null, [])) rfl rfl ?_
          refine zT_stp (pc := 140) (e := (22, 1, 0, 0, 0, .null, [])) rfl (hil h117 i6) ?_
          refine zT_stp (pc := 141) (e := (0, 1, 0, 0, 0, .int 1, [])) rfl rfl ?_
          refine zT_stp (pc := 142) (e := (1, 1, 3, 0, 0, .null, [])) rfl rfl ?_
          refine zT_stp (pc := 143) (e := (7, 1, 0, 6, 0, .null, [])) rfl rfl ?_
          refine zT_stp (pc := 144) (e := (7, 1, 0, 4, 0, .null, [])) rfl rfl ?_
          refine zT_stp (pc := 145) (e := (25, 1, 0, 0, 0, .null, [])) rfl (his h117 i6) ?_
          generalize hnv : zbin 4 (f 117 (zix p)) (zbin 6 1 best) = nv at hbt
          have hv1 : hIv f0 (zup f 117 (zix p) nv) := hIv_up hv (Or.inr rfl) (by rw [c7]; dsimp only; omega) (by rw [c7]; dsimp only; omega)
          have hu1 : hUf (zup f 117 (zix p) nv) = hUf f + (nv.toInt - (f 117 (zix p)).toInt) := hUf_up (by omega)
          generalize hf1 : zup f 117 (zix p) nv = f1 at hv1 hu1
          have hc1 : 1530 - hUf f1 < N := by
            rcases hc with w | w
            · have := w.2
              omega
            · have := w.2
              omega
          have by' := hv1.1 116 (zix best)
          rw [c6] at by'
          dsimp only at by'
          have fin : ∀ (r : Nat → Nat → Option Nat) (y : Int32), aRf krf r → -1 ≤ y.toInt → y.toInt ≤ 5 → zT 2 198 (184, [some (.ref 102), some (.int 1), some (.int p), some (.int best), l4], [.int y, .int best, .ref 116], (S1, f1, g, r)) P := by
            intro r y hr y0 y1
            refine zT_stp (pc := 184) (e := (25, 1, 0, 0, 0, .null, [])) rfl (his h116 i8) ?_
            exact nx _ r 1 _ _ (hIv_up hv1 (Or.inl rfl) (by rw [c6]; exact y0) (by rw [c6]; exact y1)) hr (Or.inr ⟨rfl, by rw [hUf_ne (by omega)]; exact hc1⟩)
          have t174 : ∀ (r : Nat → Nat → Option Nat), aRf krf r → zT 2 198 (174, [some (.ref 102), some (.int 1), some (.int p), some (.int best), l4], [.int best, .ref 116], (S1, f1, g, r)) P := by
            intro r hr
            refine zT_stp (pc := 174) (e := (1, 1, 2, 0, 0, .null, [])) rfl rfl ?_
            refine zT_stp (pc := 175) (e := (17, 3, 184, 0, 0, .null, [])) rfl rfl ?_
            exact fin r p hr (by omega) (by omega)
          refine zT_stp (pc := 146) (e := (3, 1, 0, 0, 0, .null, [])) rfl rfl ?_
          refine zT_stp (pc := 147) (e := (20, 3, 12, 31, 1, .null, [(0, 1043)])) rfl (hgr h0 rfl (q31 _ hr')) ?_
          refine zT_stp (pc := 150) (e := (1, 1, 3, 0, 0, .null, [])) rfl rfl ?_
          refine zT_stp (pc := 151) (e := (3, 1, 0, 0, 0, .null, [])) rfl rfl ?_
          refine zT_stp (pc := 152) (e := (20, 3, 12, 31, 1, .null, [(0, 1043)])) rfl (hgr h0 rfl (q31 _ hr')) ?_
          refine zT_stp (pc := 155) (e := (1, 1, 3, 0, 0, .null, [])) rfl rfl ?_
          refine zT_stp (pc := 156) (e := (22, 1, 0, 0, 0, .null, [])) rfl (hil h116 i8) ?_
          by_cases hy : f1 116 (zix best) < 0
          · refine zT_stp (pc := 157) (e := (15, 3, 174, 2, 0, .null, [])) (y := (174, [some (.ref 102), some (.int 1), some (.int p), some (.int best), l4], [.int best, .ref 116], (S1, f1, g, r'))) rfl ?_ ?_
            · show some (Sum.inl (zif 2 (f1 116 (zix best)) 174 160, _, _, _)) = _
              rw [show zif 2 (f1 116 (zix best)) 174 160 = 174 from if_pos hy]
              rfl
            exact t174 r' hr'
          · have hy' : ¬ (f1 116 (zix best)).toInt < 0 := fun w => hy (Int32.lt_iff_toInt_lt.mpr (by rw [z0]; exact w))
            refine zT_stp (pc := 157) (e := (15, 3, 174, 2, 0, .null, [])) (y := (160, [some (.ref 102), some (.int 1), some (.int p), some (.int best), l4], [.int best, .ref 116], (S1, f1, g, r'))) rfl ?_ ?_
            · show some (Sum.inl (zif 2 (f1 116 (zix best)) 174 160, _, _, _)) = _
              rw [show zif 2 (f1 116 (zix best)) 174 160 = 160 from if_neg hy]
              rfl
            refine zT_stp (pc := 160) (e := (3, 1, 0, 0, 0, .null, [])) rfl rfl ?_
            refine zT_stp (pc := 161) (e := (1, 1, 2, 0, 0, .null, [])) rfl rfl ?_
            refine zT_stp (pc := 162) (e := (3, 1, 0, 0, 0, .null, [])) rfl rfl ?_
            refine zT_stp (pc := 163) (e := (20, 3, 12, 31, 1, .null, [(0, 1043)])) rfl (hgr h0 rfl (q31 _ hr')) ?_
            refine zT_stp (pc := 166) (e := (1, 1, 3, 0, 0, .null, [])) rfl rfl ?_
            refine zT_stp (pc := 167) (e := (22, 1, 0, 0, 0, .null, [])) rfl (hil h116 i8) ?_
            refine zT_cal (pc := 168) (e := (32, 3, 196, 3, 48, .null, [(0, 1124)])) (y := (171, [some (.ref 102), some (.int 1), some (.int p), some (.int best), l4], [.int best, .ref 116], (S1, f1, g, r'))) rfl (show zs32 3 196 3 0 12 (168, [some (.ref 102), some (.int 1), some (.int p), some (.int best), l4], [.int (f1 116 (zix best)), .int p, .ref 102, .int best, .ref 116], (S1, f1, g, r')) = _ from hcall3 (st := [.int best, .ref 116]) h0 rfl) rfl (hu_rather hS hr' hv1.1 (hIv_J hj hv1) (by omega) (by omega) (by omega) (by omega)) ?_
            rintro res h1 ⟨v2, r2, rfl, w3, w4, rfl, hr2⟩
            show zT 2 198 (171, [some (.ref 102), some (.int 1), some (.int p), some (.int best), l4], [.int v2, .int best, .ref 116], (S1, f1, g, r2)) P
            by_cases hv2 : v2 = 0
            · refine zT_stp (pc := 171) (e := (15, 3, 178, 0, 0, .null, [])) (y := (178, [some (.ref 102), some (.int 1), some (.int p), some (.int best), l4], [.int best, .ref 116], (S1, f1, g, r2))) rfl ?_ ?_
              · show some (Sum.inl (zif 0 v2 178 174, _, _, _)) = _
                rw [show zif 0 v2 178 174 = 178 from if_pos hv2]
              refine zT_stp (pc := 178) (e := (3, 1, 0, 0, 0, .null, [])) rfl rfl ?_
              refine zT_stp (pc := 179) (e := (20, 3, 12, 31, 1, .null, [(0, 1043)])) rfl (hgr h0 rfl (q31 _ hr2)) ?_
              refine zT_stp (pc := 182) (e := (1, 1, 3, 0, 0, .null, [])) rfl rfl ?_
              refine zT_stp (pc := 183) (e := (22, 1, 0, 0, 0, .null, [])) rfl (hil h116 i8) ?_
              exact fin r2 _ hr2 by'.1 by'.2
            · refine zT_stp (pc := 171) (e := (15, 3, 178, 0, 0, .null, [])) (y := (174, [some (.ref 102), some (.int 1), some (.int p), some (.int best), l4], [.int best, .ref 116], (S1, f1, g, r2))) rfl ?_ ?_
              · show some (Sum.inl (zif 0 v2 178 174, _, _, _)) = _
                rw [show zif 0 v2 178 174 = 174 from if_neg hv2]
              exact t174 r2 hr2
      · refine zT_stp (pc := 125) (e := (15, 3, 185, 3, 0, .null, [])) (y := (185, [some (.ref 102), some (.int go), some (.int p), some (.int best), l4], [], (S1, f, g, r'))) rfl ?_ ?_
        · show some (Sum.inl (zif 3 v 185 128, _, _, _)) = _
          rw [show zif 3 v 185 128 = 185 from if_neg hv0]
        exact nx f r' go _ _ hv hr' hc
    · refine zT_stp (pc := 61) (e := (16, 3, 191, 3, 0, .null, [])) (y := (191, [some (.ref 102), some (.int go), some (.int p), l3, l4], [], (S1, f, g, r))) rfl ?_ ?_
      · show some (Sum.inl (zicmp 3 p (f 102 6) 191 64, _, _, _)) = _
        rw [show zicmp 3 p (f 102 6) 191 64 = 191 from if_neg hq]
      exact ex f r go p _ _ hv hr hc
theorem hall_w {r0 : Nat → Nat → Option Nat} (hS : aShp kS S1) (hj : aJ (S1, f0, g, r0)) : ∀ (N : Nat) (f : Nat → Nat → Int32) (r : Nat → Nat → Option Nat) (go : Int32) (l2 l3 l4 : Option Value), hIv f0 f → aRf krf r → (go = 0 ∨ (go = 1 ∧ 1530 - hUf f < (N : Int))) → zT 2 198 (48, [some (.ref 102), some (.int go), l2, l3, l4], [], (S1, f, g, r)) (aPost kS krf kB hallE [] (S1, f0, g, r0)) := by
  have out : ∀ (f : Nat → Nat → Int32) (r : Nat → Nat → Option Nat) (l2 l3 l4 : Option Value), hIv f0 f → aRf krf r → zT 2 198 (48, [some (.ref 102), some (.int 0), l2, l3, l4], [], (S1, f, g, r)) (aPost kS krf kB hallE [] (S1, f0, g, r0)) := by
    intro f r l2 l3 l4 hv hr
    refine zT_stp (pc := 48) (e := (1, 1, 1, 0, 0, .null, [])) rfl rfl ?_
    refine zT_stp (pc := 49) (e := (15, 3, 194, 0, 0, .null, [])) rfl rfl ?_
    refine zT_rtn (pc := 194) (e := (38, 1, 0, 0, 0, .null, [])) rfl rfl ?_
    refine ⟨[], ⟨rfl, fun k w q h1 h2 => by cases h1⟩, trivial, ⟨⟨hS, hr, hv.1⟩, fun o k a ha => by cases ha⟩, fun f hf => (by cases hf), fun f hf => (by cases hf), ⟨fun o k hw => ?_, fun _ => rfl, rfl⟩, hIv_J hj hv⟩
    exact hv.2 o k (fun q => by rw [q] at hw; cases hw) (fun q => by rw [q] at hw; cases hw)
  intro N
  induction N with
  | zero =>
    intro f r go l2 l3 l4 hv hr hc
    rcases hc with w | w
    · subst w
      exact out f r l2 l3 l4 hv hr
    · have := hUf_le hv.1
      have := w.2
      omega
  | succ N ih =>
    intro f r go l2 l3 l4 hv hr hc
    rcases hc with w | w
    · subst w
      exact out f r l2 l3 l4 hv hr
    · obtain ⟨w, w2⟩ := w
      subst w
      refine zT_stp (pc := 48) (e := (1, 1, 1, 0, 0, .null, [])) rfl rfl ?_
      refine zT_stp (pc := 49) (e := (15, 3, 194, 0, 0, .null, [])) rfl rfl ?_
      refine zT_stp (pc := 52) (e := (0, 1, 0, 0, 0, .int 0, [])) rfl rfl ?_
      refine zT_stp (pc := 53) (e := (4, 1, 1, 0, 0, .null, [])) rfl rfl ?_
      refine zT_stp (pc := 54) (e := (0, 1, 0, 0, 0, .int 0, [])) rfl rfl ?_
      refine zT_stp (pc := 55) (e := (4, 1, 2, 0, 0, .null, [])) rfl rfl ?_
      exact hall_p hS hj ih 6 f r 0 0 _ _ hv hr (Or.inl ⟨rfl, by omega⟩) rfl (by omega)
/-- row 117 is laid empty -/
theorem hall_b {r0 : Nat → Nat → Option Nat} (hS : aShp kS S1) (hj : aJ (S1, f0, g, r0)) : ∀ (n : Nat) (f : Nat → Nat → Int32) (r : Nat → Nat → Option Nat) (p : Int32) (l2 l3 l4 : Option Value), hIv f0 f → aRf krf r → p.toInt = 6 - (n : Int) → n ≤ 6 → zT 2 198 (25, [some (.ref 102), some (.int p), l2, l3, l4], [], (S1, f, g, r)) (aPost kS krf kB hallE [] (S1, f0, g, r0)) := by
  have h0 : zget S1 102 = some (22, 49) := hS 102 22 49 rfl rfl
  have h117 : zget S1 117 = some (0, 6) := hS 117 0 6 rfl rfl
  have z1 : (1 : Int32).toInt = 1 := rfl
  have c7 : ∀ k, aiv kB 117 k = (0, 255) := fun _ => rfl
  have ex : ∀ (f : Nat → Nat → Int32) (r : Nat → Nat → Option Nat) (p : Int32) (l2 l3 l4 : Option Value), hIv f0 f → aRf krf r → zT 2 198 (46, [some (.ref 102), some (.int p), l2, l3, l4], [], (S1, f, g, r)) (aPost kS krf kB hallE [] (S1, f0, g, r0)) := by
    intro f r p l2 l3 l4 hv hr
    refine zT_stp (pc := 46) (e := (0, 1, 0, 0, 0, .int 1, [])) rfl rfl ?_
    refine zT_stp (pc := 47) (e := (4, 1, 1, 0, 0, .null, [])) rfl rfl ?_
    have nn : ∀ k, 0 ≤ (f 117 k).toInt := fun k => (hv.1 117 k).1
    refine hall_w hS hj 1531 f r 1 _ _ _ hv hr (Or.inr ⟨rfl, ?_⟩)
    have a0 := nn 0
    have a1 := nn 1
    have a2 := nn 2
    have a3 := nn 3
    have a4 := nn 4
    have a5 := nn 5
    unfold hUf
    omega
  intro n
  induction n with
  | zero =>
    intro f r p l2 l3 l4 hv hr hp hn
    have bh := hv.1 102 6
    rw [show aiv kB 102 6 = (0, 6) from rfl] at bh
    dsimp only at bh
    refine zT_stp (pc := 25) (e := (1, 1, 1, 0, 0, .null, [])) rfl rfl ?_
    refine zT_stp (pc := 26) (e := (3, 1, 0, 0, 0, .null, [])) rfl rfl ?_
    refine zT_stp (pc := 27) (e := (20, 3, 12, 6, 0, .null, [(0, 1058)])) rfl (hgi h0 rfl) ?_
    refine zT_stp (pc := 30) (e := (16, 3, 46, 3, 0, .null, [])) (y := (46, [some (.ref 102), some (.int p), l2, l3, l4], [], (S1, f, g, r))) rfl ?_ ?_
    · show some (Sum.inl (zicmp 3 p (f 102 6) 46 33, _, _, _)) = _
      rw [show zicmp 3 p (f 102 6) 46 33 = 46 from if_neg (fun w => by have := Int32.lt_iff_toInt_lt.mp w; omega)]
    exact ex f r p _ _ _ hv hr
  | succ n ih =>
    intro f r p l2 l3 l4 hv hr hp hn
    have ep : (p + 1).toInt = p.toInt + 1 := by
      rw [na_add (by rw [z1]; omega) (by rw [z1]; omega), z1]
    have zp := azix (i := p) (by omega)
    have i6 : Nat.blt (zix p) 6 = true := by rw [Nat.blt_eq]; omega
    have q32 : r 102 32 = some 117 := href hr rfl
    refine zT_stp (pc := 25) (e := (1, 1, 1, 0, 0, .null, [])) rfl rfl ?_
    refine zT_stp (pc := 26) (e := (3, 1, 0, 0, 0, .null, [])) rfl rfl ?_
    refine zT_stp (pc := 27) (e := (20, 3, 12, 6, 0, .null, [(0, 1058)])) rfl (hgi h0 rfl) ?_
    by_cases hq : p < f 102 6
    · refine zT_stp (pc := 30) (e := (16, 3, 46, 3, 0, .null, [])) (y := (33, [some (.ref 102), some (.int p), l2, l3, l4], [], (S1, f, g, r))) rfl ?_ ?_
      · show some (Sum.inl (zicmp 3 p (f 102 6) 46 33, _, _, _)) = _
        rw [show zicmp 3 p (f 102 6) 46 33 = 33 from if_pos hq]
      refine zT_stp (pc := 33) (e := (3, 1, 0, 0, 0, .null, [])) rfl rfl ?_
      refine zT_stp (pc := 34) (e := (20, 3, 12, 32, 1, .null, [(0, 1044)])) rfl (hgr h0 rfl q32) ?_
      refine zT_stp (pc := 37) (e := (1, 1, 1, 0, 0, .null, [])) rfl rfl ?_
      refine zT_stp (pc := 38) (e := (0, 1, 0, 0, 0, .int 0, [])) rfl rfl ?_
      refine zT_stp (pc := 39) (e := (25, 1, 0, 0, 0, .null, [])) rfl (his h117 i6) ?_
      refine zT_stp (pc := 40) (e := (19, 3, 1, 0, 0, .int 1, [])) rfl rfl ?_
      refine zT_stp (pc := 43) (e := (17, 3, 25, 0, 0, .null, [])) rfl rfl ?_
      exact ih _ r (p + 1) _ _ _ (hIv_up hv (Or.inr rfl) (by rw [c7]; decide) (by rw [c7]; decide)) hr (by omega) (by omega)
    · refine zT_stp (pc := 30) (e := (16, 3, 46, 3, 0, .null, [])) (y := (46, [some (.ref 102), some (.int p), l2, l3, l4], [], (S1, f, g, r))) rfl ?_ ?_
      · show some (Sum.inl (zicmp 3 p (f 102 6) 46 33, _, _, _)) = _
        rw [show zicmp 3 p (f 102 6) 46 33 = 46 from if_neg hq]
      exact ex f r p _ _ _ hv hr
/-- row 116 is laid empty -/
theorem hall_a {r0 : Nat → Nat → Option Nat} (hS : aShp kS S1) (hj : aJ (S1, f0, g, r0)) : ∀ (n : Nat) (f : Nat → Nat → Int32) (r : Nat → Nat → Option Nat) (p : Int32) (l2 l3 l4 : Option Value), hIv f0 f → aRf krf r → p.toInt = 8 - (n : Int) → n ≤ 8 → zT 2 198 (2, [some (.ref 102), some (.int p), l2, l3, l4], [], (S1, f, g, r)) (aPost kS krf kB hallE [] (S1, f0, g, r0)) := by
  have h0 : zget S1 102 = some (22, 49) := hS 102 22 49 rfl rfl
  have h116 : zget S1 116 = some (0, 8) := hS 116 0 8 rfl rfl
  have z1 : (1 : Int32).toInt = 1 := rfl
  have c6 : ∀ k, aiv kB 116 k = (-1, 5) := fun _ => rfl
  have ex : ∀ (f : Nat → Nat → Int32) (r : Nat → Nat → Option Nat) (p : Int32) (l2 l3 l4 : Option Value), hIv f0 f → aRf krf r → zT 2 198 (23, [some (.ref 102), some (.int p), l2, l3, l4], [], (S1, f, g, r)) (aPost kS krf kB hallE [] (S1, f0, g, r0)) := by
    intro f r p l2 l3 l4 hv hr
    refine zT_stp (pc := 23) (e := (0, 1, 0, 0, 0, .int 0, [])) rfl rfl ?_
    refine zT_stp (pc := 24) (e := (4, 1, 1, 0, 0, .null, [])) rfl rfl ?_
    exact hall_b hS hj 6 f r 0 _ _ _ hv hr rfl (by omega)
  intro n
  induction n with
  | zero =>
    intro f r p l2 l3 l4 hv hr hp hn
    have bh := hv.1 102 7
    rw [show aiv kB 102 7 = (0, 8) from rfl] at bh
    dsimp only at bh
    refine zT_stp (pc := 2) (e := (1, 1, 1, 0, 0, .null, [])) rfl rfl ?_
    refine zT_stp (pc := 3) (e := (3, 1, 0, 0, 0, .null, [])) rfl rfl ?_
    refine zT_stp (pc := 4) (e := (20, 3, 12, 7, 0, .null, [(0, 1060)])) rfl (hgi h0 rfl) ?_
    refine zT_stp (pc := 7) (e := (16, 3, 23, 3, 0, .null, [])) (y := (23, [some (.ref 102), some (.int p), l2, l3, l4], [], (S1, f, g, r))) rfl ?_ ?_
    · show some (Sum.inl (zicmp 3 p (f 102 7) 23 10, _, _, _)) = _
      rw [show zicmp 3 p (f 102 7) 23 10 = 23 from if_neg (fun w => by have := Int32.lt_iff_toInt_lt.mp w; omega)]
    exact ex f r p _ _ _ hv hr
  | succ n ih =>
    intro f r p l2 l3 l4 hv hr hp hn
    have ep : (p + 1).toInt = p.toInt + 1 := by
      rw [na_add (by rw [z1]; omega) (by rw [z1]; omega), z1]
    have zp := azix (i := p) (by omega)
    have i8 : Nat.blt (zix p) 8 = true := by rw [Nat.blt_eq]; omega
    have q31 : r 102 31 = some 116 := href hr rfl
    refine zT_stp (pc := 2) (e := (1, 1, 1, 0, 0, .null, [])) rfl rfl ?_
    refine zT_stp (pc := 3) (e := (3, 1, 0, 0, 0, .null, [])) rfl rfl ?_
    refine zT_stp (pc := 4) (e := (20, 3, 12, 7, 0, .null, [(0, 1060)])) rfl (hgi h0 rfl) ?_
    by_cases hq : p < f 102 7
    · refine zT_stp (pc := 7) (e := (16, 3, 23, 3, 0, .null, [])) (y := (10, [some (.ref 102), some (.int p), l2, l3, l4], [], (S1, f, g, r))) rfl ?_ ?_
      · show some (Sum.inl (zicmp 3 p (f 102 7) 23 10, _, _, _)) = _
        rw [show zicmp 3 p (f 102 7) 23 10 = 10 from if_pos hq]
      refine zT_stp (pc := 10) (e := (3, 1, 0, 0, 0, .null, [])) rfl rfl ?_
      refine zT_stp (pc := 11) (e := (20, 3, 12, 31, 1, .null, [(0, 1043)])) rfl (hgr h0 rfl q31) ?_
      refine zT_stp (pc := 14) (e := (1, 1, 1, 0, 0, .null, [])) rfl rfl ?_
      refine zT_stp (pc := 15) (e := (0, 1, 0, 0, 0, .int (-1), [])) rfl rfl ?_
      refine zT_stp (pc := 16) (e := (25, 1, 0, 0, 0, .null, [])) rfl (his h116 i8) ?_
      refine zT_stp (pc := 17) (e := (19, 3, 1, 0, 0, .int 1, [])) rfl rfl ?_
      refine zT_stp (pc := 20) (e := (17, 3, 2, 0, 0, .null, [])) rfl rfl ?_
      exact ih _ r (p + 1) _ _ _ (hIv_up hv (Or.inl rfl) (by rw [c6]; decide) (by rw [c6]; decide)) hr (by omega) (by omega)
    · refine zT_stp (pc := 7) (e := (16, 3, 23, 3, 0, .null, [])) (y := (23, [some (.ref 102), some (.int p), l2, l3, l4], [], (S1, f, g, r))) rfl ?_ ?_
      · show some (Sum.inl (zicmp 3 p (f 102 7) 23 10, _, _, _)) = _
        rw [show zicmp 3 p (f 102 7) 23 10 = 23 from if_neg hq]
      exact ex f r p _ _ _ hv hr
end HA2
theorem hand_allAsk : aOK kS krf kB hallE := by
  intro E x R hD hsl hj
  obtain ⟨pc, lo, st, S1, f, g, r⟩ := x
  obtain ⟨hs, hpc, hl, hst, hh⟩ := R
  have hpc : 0 = pc := hpc
  subst hpc
  obtain ⟨v, h1, o, rfl, ho⟩ := hl.2 0 _ rfl
  have ho := List.mem_singleton.mp ho
  subst ho
  have est : st = [] := by
    cases st with
    | nil => rfl
    | cons _ _ => exact hst.elim
  subst est
  have eE : E = [] := List.eq_nil_of_length_eq_zero hs.1
  subst eE
  match lo, hl.1, h1 with
  | [x1, x2, x3, x4, x5], _, h1 =>
    cases h1
    show zT 2 198 (0, [some (.ref 102), x2, x3, x4, x5], [], (S1, f, g, r)) (aPost kS krf kB hallE [] (S1, f, g, r))
    refine zT_stp (pc := 0) (e := (0, 1, 0, 0, 0, .int 0, [])) rfl rfl ?_
    refine zT_stp (pc := 1) (e := (4, 1, 1, 0, 0, .null, [])) rfl rfl ?_
    exact hall_a hh.1.1 hj 8 f r 0 _ _ _ ⟨hh.1.2.2, fun _ _ _ _ => rfl⟩ hh.1.2.1 rfl (by omega)
