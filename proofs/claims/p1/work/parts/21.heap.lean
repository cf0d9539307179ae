/-! THE LAW'S RUNS on a fresh object, by the executor: a case for each call. -/
def zTb : List (List Int32) := [[5, 12, 3, 5, 99, 9, 1, 9, 5, 9, 9, 2], [0, 0, 0, 0, 0, 0, 0, 0, -1, 1, 0, 0], [4, 0, 3], [-1, 0, 0, 2, 1, 3, 0, 4], [1, 10, 11, 2, 20, 0, 0, 0, 0, 30, 0, 0, 0, 41, 40, 0, 0, 0, 50, 0, 0, 0, 0, 60, 70, 0, 0, 0, 0, 80, 0, 81]]
def zst0 (o k : Nat) : Int32 := match zget zTb (o - 1) with
  | some r => (zget r k).getD 0
  | none => 0
def sh0 : zH := ([(9, 0), (5, 12), (5, 12), (5, 3), (5, 8), (5, 32)], zst0, fun _ _ => 0, fun _ _ => none)
def sfa : Nat × Nat := (0, 4294967295)
/-- bounds: of the second int of the script, and of its first by 63 -/
def scs (v1 v6 : Nat × Nat) : sI := [sfa, v1, sfa, sfa, sfa, sfa, v6, sfa, sfa, sfa, sfa, sfa, sfa, sfa, sfa, sfa, sfa, sfa, sfa, sfa, sfa, sfa, sfa, sfa, sfa, sfa, sfa, sfa, sfa, sfa, sfa, sfa, sfa, sfa, sfa, sfa, sfa, sfa]
def sfr0 : List zFr := [(241, 0, [some (.ref 0), none, none, none], [])]
