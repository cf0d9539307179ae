/-! BY HAND: allAsk: its loops. -/
def hallE : aE := (198, 2, ([], [], 0, [some (.inr [102]), none, none, none, none], []), ([], none), ([], [], none, ([], [])), ([], [116, 117]))
/-- bounds hold, and nothing but rows 116 and 117 is changed -/
def hIv (f0 f : Nat → Nat → Int32) : Prop := hBd f ∧ ∀ o k, o ≠ 116 → o ≠ 117 → f o k = f0 o k
/-- the best so far is none, or one that was not asked -/
def hBs (x b : Int32) : Prop := b.toInt = -1 ∨ (0 ≤ b.toInt ∧ b.toInt ≤ 7 ∧ zbin 3 (zbin 7 x b) 1 ≠ 1)
section HA
variable {S1 : List (Nat × Nat)} {f0 f : Nat → Nat → Int32} {g : Nat → Nat → Int64} {r0 : Nat → Nat → Option Nat} {p go : Int32} {P : Option Value → zH → Prop}
theorem hcall2 {len a pc : Nat} {lo : List (Option Value)} {st : List Value} {x : Int32} {ff : Nat → Nat → Int32} {r : Nat → Nat → Option Nat} (h0 : zget S1 102 = some (22, 49)) (hc : Nat.ble (zcat st) 8 = true) : zs32 len a 2 0 12 (pc, lo, .int x :: .ref 102 :: st, (S1, ff, g, r)) = some (.inr (.inl (a, [.ref 102, .int x], (pc + len, lo, st, (S1, ff, g, r))))) := by
  simp only [zs32, ztake]
  rw [hc, h0]
  rfl
theorem hcall3 {len a pc : Nat} {lo : List (Option Value)} {st : List Value} {x y : Int32} {ff : Nat → Nat → Int32} {r : Nat → Nat → Option Nat} (h0 : zget S1 102 = some (22, 49)) (hc : Nat.ble (zcat st) 8 = true) : zs32 len a 3 0 12 (pc, lo, .int y :: .int x :: .ref 102 :: st, (S1, ff, g, r)) = some (.inr (.inl (a, [.ref 102, .int x, .int y], (pc + len, lo, st, (S1, ff, g, r))))) := by
  simp only [zs32, ztake]
  rw [hc, h0]
  rfl
theorem hcall4 {len a pc : Nat} {lo : List (Option Value)} {st : List Value} {x y z : Int32} {ff : Nat → Nat → Int32} {r : Nat → Nat → Option Nat} (h0 : zget S1 102 = some (22, 49)) (hc : Nat.ble (zcat st) 8 = true) : zs32 len a 4 0 12 (pc, lo, .int z :: .int y :: .int x :: .ref 102 :: st, (S1, ff, g, r)) = some (.inr (.inl (a, [.ref 102, .int x, .int y, .int z], (pc + len, lo, st, (S1, ff, g, r))))) := by
  simp only [zs32, ztake]
  rw [hc, h0]
  rfl
theorem hall_i (hS : aShp kS S1) (hb : hBd f) (hj : ∀ r, aJ (S1, f, g, r)) (p0 : 0 ≤ p.toInt) (p5 : p.toInt ≤ 5) (K : ∀ (best : Int32) (r : Nat → Nat → Option Nat) (l4 : Option Value), aRf krf r → hBs (f 117 (zix p)) best → zT 2 198 (120, [some (.ref 102), some (.int go), some (.int p), some (.int best), l4], [], (S1, f, g, r)) P) : ∀ (n : Nat) (i best : Int32) (r : Nat → Nat → Option Nat), aRf krf r → hBs (f 117 (zix p)) best → i.toInt = 8 - (n : Int) → n ≤ 8 → zT 2 198 (69, [some (.ref 102), some (.int go), some (.int p), some (.int best), some (.int i)], [], (S1, f, g, r)) P := by
  have h0 : zget S1 102 = some (22, 49) := hS 102 22 49 rfl rfl
  have h117 : zget S1 117 = some (0, 6) := hS 117 0 6 rfl rfl
  have zp := azix (i := p) p0
  have i6 : Nat.blt (zix p) 6 = true := by rw [Nat.blt_eq]; omega
  have bi := hb 102 7
  rw [show aiv kB 102 7 = (0, 8) from rfl] at bi
  dsimp only at bi
  have z1 : (1 : Int32).toInt = 1 := rfl
  have z0 : (0 : Int32).toInt = 0 := rfl
  intro n
  induction n with
  | zero =>
    intro i best r hr hbs hi hn
    refine zT_stp (pc := 69) (e := (1, 2, 4, 0, 0, .null, [])) rfl rfl ?_
    refine zT_stp (pc := 71) (e := (3, 1, 0, 0, 0, .null, [])) rfl rfl ?_
    refine zT_stp (pc := 72) (e := (20, 3, 12, 7, 0, .null, [(0, 1060)])) rfl (hgi h0 rfl) ?_
    refine zT_stp (pc := 75) (e := (16, 3, 120, 3, 0, .null, [])) (y := (120, [some (.ref 102), some (.int go), some (.int p), some (.int best), some (.int i)], [], (S1, f, g, r))) rfl ?_ ?_
    · show some (Sum.inl (zicmp 3 i (f 102 7) 120 78, _, _, _)) = _
      rw [show zicmp 3 i (f 102 7) 120 78 = 120 from if_neg (fun w => by have := Int32.lt_iff_toInt_lt.mp w; omega)]
    exact K best r _ hr hbs
  | succ n ih =>
    intro i best r hr hbs hi hn
    have ep : (i + 1).toInt = i.toInt + 1 := by
      rw [na_add (by rw [z1]; omega) (by rw [z1]; omega), z1]
    refine zT_stp (pc := 69) (e := (1, 2, 4, 0, 0, .null, [])) rfl rfl ?_
    refine zT_stp (pc := 71) (e := (3, 1, 0, 0, 0, .null, [])) rfl rfl ?_
    refine zT_stp (pc := 72) (e := (20, 3, 12, 7, 0, .null, [(0, 1060)])) rfl (hgi h0 rfl) ?_
    by_cases hq : i < f 102 7
    · have hq' := Int32.lt_iff_toInt_lt.mp hq
      refine zT_stp (pc := 75) (e := (16, 3, 120, 3, 0, .null, [])) (y := (78, [some (.ref 102), some (.int go), some (.int p), some (.int best), some (.int i)], [], (S1, f, g, r))) rfl ?_ ?_
      · show some (Sum.inl (zicmp 3 i (f 102 7) 120 78, _, _, _)) = _
        rw [show zicmp 3 i (f 102 7) 120 78 = 78 from if_pos hq]
      have t112 : ∀ r, aRf krf r → zT 2 198 (112, [some (.ref 102), some (.int go), some (.int p), some (.int best), some (.int i)], [], (S1, f, g, r)) P := by
        intro r hr
        refine zT_stp (pc := 112) (e := (1, 1, 3, 0, 0, .null, [])) rfl rfl ?_
        refine zT_stp (pc := 113) (e := (4, 1, 3, 0, 0, .null, [])) rfl rfl ?_
        refine zT_stp (pc := 114) (e := (19, 3, 4, 0, 0, .int 1, [])) rfl rfl ?_
        refine zT_stp (pc := 117) (e := (17, 3, 69, 0, 0, .null, [])) rfl rfl ?_
        exact ih (i + 1) best r hr hbs (by omega) (by omega)
      have q32 : r 102 32 = some 117 := href hr rfl
      refine zT_stp (pc := 78) (e := (3, 1, 0, 0, 0, .null, [])) rfl rfl ?_
      refine zT_stp (pc := 79) (e := (20, 3, 12, 32, 1, .null, [(0, 1044)])) rfl (hgr h0 rfl q32) ?_
      refine zT_stp (pc := 82) (e := (1, 1, 2, 0, 0, .null, [])) rfl rfl ?_
      refine zT_stp (pc := 83) (e := (22, 1, 0, 0, 0, .null, [])) rfl (hil h117 i6) ?_
      refine zT_stp (pc := 84) (e := (1, 2, 4, 0, 0, .null, [])) rfl rfl ?_
      refine zT_cal (pc := 86) (e := (32, 3, 144, 2, 49, .null, [(0, 1119)])) rfl rfl rfl hu_isin ?_
      rintro res h1 ⟨rfl, ⟨hin, rfl⟩ | ⟨hin, rfl⟩⟩
      · show zT 2 198 (89, [some (.ref 102), some (.int go), some (.int p), some (.int best), some (.int i)], [.int 1], (S1, f, g, r)) P
        refine zT_stp (pc := 89) (e := (15, 3, 112, 1, 0, .null, [])) rfl rfl ?_
        exact t112 r hr
      · show zT 2 198 (89, [some (.ref 102), some (.int go), some (.int p), some (.int best), some (.int i)], [.int 0], (S1, f, g, r)) P
        have t107 : ∀ r, aRf krf r → zT 2 198 (107, [some (.ref 102), some (.int go), some (.int p), some (.int best), some (.int i)], [], (S1, f, g, r)) P := by
          intro r hr
          refine zT_stp (pc := 107) (e := (1, 2, 4, 0, 0, .null, [])) rfl rfl ?_
          refine zT_stp (pc := 109) (e := (17, 3, 113, 0, 0, .null, [])) rfl rfl ?_
          refine zT_stp (pc := 113) (e := (4, 1, 3, 0, 0, .null, [])) rfl rfl ?_
          refine zT_stp (pc := 114) (e := (19, 3, 4, 0, 0, .int 1, [])) rfl rfl ?_
          refine zT_stp (pc := 117) (e := (17, 3, 69, 0, 0, .null, [])) rfl rfl ?_
          exact ih (i + 1) i r hr (Or.inr ⟨by omega, by omega, hin⟩) (by omega) (by omega)
        refine zT_stp (pc := 89) (e := (15, 3, 112, 1, 0, .null, [])) rfl rfl ?_
        refine zT_stp (pc := 92) (e := (1, 1, 3, 0, 0, .null, [])) rfl rfl ?_
        by_cases hneg : best < 0
        · refine zT_stp (pc := 93) (e := (15, 3, 107, 2, 0, .null, [])) (y := (107, [some (.ref 102), some (.int go), some (.int p), some (.int best), some (.int i)], [], (S1, f, g, r))) rfl ?_ ?_
          · show some (Sum.inl (zif 2 best 107 96, _, _, _)) = _
            rw [show zif 2 best 107 96 = 107 from if_pos hneg]
          exact t107 r hr
        · have hneg' : ¬ best.toInt < 0 := fun w => hneg (Int32.lt_iff_toInt_lt.mpr (by rw [z0]; exact w))
          refine zT_stp (pc := 93) (e := (15, 3, 107, 2, 0, .null, [])) (y := (96, [some (.ref 102), some (.int go), some (.int p), some (.int best), some (.int i)], [], (S1, f, g, r))) rfl ?_ ?_
          · show some (Sum.inl (zif 2 best 107 96, _, _, _)) = _
            rw [show zif 2 best 107 96 = 96 from if_neg hneg]
          have hb2 : 0 ≤ best.toInt ∧ best.toInt ≤ 7 := by
            rcases hbs with w | w
            · omega
            · exact ⟨w.1, w.2.1⟩
          refine zT_stp (pc := 96) (e := (3, 1, 0, 0, 0, .null, [])) rfl rfl ?_
          refine zT_stp (pc := 97) (e := (1, 1, 2, 0, 0, .null, [])) rfl rfl ?_
          refine zT_stp (pc := 98) (e := (1, 2, 4, 0, 0, .null, [])) rfl rfl ?_
          refine zT_stp (pc := 100) (e := (1, 1, 3, 0, 0, .null, [])) rfl rfl ?_
          refine zT_cal (pc := 101) (e := (32, 3, 195, 4, 48, .null, [(0, 1122)])) (y := (104, [some (.ref 102), some (.int go), some (.int p), some (.int best), some (.int i)], [], (S1, f, g, r))) rfl (show zs32 3 195 4 0 12 (101, [some (.ref 102), some (.int go), some (.int p), some (.int best), some (.int i)], [.int best, .int i, .int p, .ref 102], (S1, f, g, r)) = _ from hcall4 (st := []) h0 rfl) rfl (hu_head hS hr hb (hj r) p0 p5 (by omega) (by omega) hb2.1 hb2.2) ?_
          rintro res h1 ⟨v, r', rfl, w1, w2, rfl, hr'⟩
          show zT 2 198 (104, [some (.ref 102), some (.int go), some (.int p), some (.int best), some (.int i)], [.int v], (S1, f, g, r')) P
          by_cases hv : v = 0
          · refine zT_stp (pc := 104) (e := (15, 3, 112, 0, 0, .null, [])) (y := (112, [some (.ref 102), some (.int go), some (.int p), some (.int best), some (.int i)], [], (S1, f, g, r'))) rfl ?_ ?_
            · show some (Sum.inl (zif 0 v 112 107, _, _, _)) = _
              rw [show zif 0 v 112 107 = 112 from if_pos hv]
            exact t112 r' hr'
          · refine zT_stp (pc := 104) (e := (15, 3, 112, 0, 0, .null, [])) (y := (107, [some (.ref 102), some (.int go), some (.int p), some (.int best), some (.int i)], [], (S1, f, g, r'))) rfl ?_ ?_
            · show some (Sum.inl (zif 0 v 112 107, _, _, _)) = _
              rw [show zif 0 v 112 107 = 107 from if_neg hv]
            exact t107 r' hr'
    · refine zT_stp (pc := 75) (e := (16, 3, 120, 3, 0, .null, [])) (y := (120, [some (.ref 102), some (.int go), some (.int p), some (.int best), some (.int i)], [], (S1, f, g, r))) rfl ?_ ?_
      · show some (Sum.inl (zicmp 3 i (f 102 7) 120 78, _, _, _)) = _
        rw [show zicmp 3 i (f 102 7) 120 78 = 120 from if_neg hq]
      exact K best r _ hr hbs
end HA
