/-! THE START, second part: from the constructors' end the law's contract holds. -/
theorem zget_nn {α : Type} : ∀ {l : List α} {k : Nat}, l.length ≤ k → zget l k = none
  | [], _, _ => rfl
  | _ :: l, 0, h => by cases h
  | _ :: l, k + 1, h => zget_nn (l := l) (Nat.le_of_succ_le_succ h)
theorem hZ_sh0 : hZ sh0 := by
  intro o k hq
  match o, hq with
  | 0, _ => rfl
  | 1, hq =>
    have h := hq 5 12 rfl
    show ((zget _ k).getD 0 : Int32) = 0
    rw [zget_nn h]
    rfl
  | 2, hq =>
    have h := hq 5 12 rfl
    show ((zget _ k).getD 0 : Int32) = 0
    rw [zget_nn h]
    rfl
  | 3, hq =>
    have h := hq 5 3 rfl
    show ((zget _ k).getD 0 : Int32) = 0
    rw [zget_nn h]
    rfl
  | 4, hq =>
    have h := hq 5 8 rfl
    show ((zget _ k).getD 0 : Int32) = 0
    rw [zget_nn h]
    rfl
  | 5, hq =>
    have h := hq 5 32 rfl
    show ((zget _ k).getD 0 : Int32) = 0
    rw [zget_nn h]
    rfl
  | o + 6, _ => rfl
