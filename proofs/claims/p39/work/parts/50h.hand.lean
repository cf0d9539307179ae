/-! BY HAND: allAsk: the loop over heads, the loop while one asks, the whole. -/
section HA2
variable {S1 : List (Nat × Nat)} {f0 : Nat → Nat → Int32} {g : Nat → Nat → Int64} {P : Option Value → zH → Prop}
theorem hIv_J {f : Nat → Nat → Int32} {r0 r : Nat → Nat → Option Nat} (hj : aJ (S1, f0, g, r0)) (hv : hIv f0 f) : aJ (S1, f, g, r) := by
  have e : ∀ o k, o ≠ 116 → o ≠ 117 → f o k = f0 o k := hv.2
  refine ⟨?_, fun k hk => ?_⟩
  · show (f 102 5).toInt ≤ (f 102 4).toInt
    rw [e 102 5 (by omega) (by omega), e 102 4 (by omega) (by omega)]
    exact hj.1
  · show 60 ≤ (f 104 k).toInt → (f 104 k).toInt ≤ 67 → (f 105 k).toInt ≤ 5 ∧ (f 106 k).toInt ≤ 5
    rw [e 104 k (by omega) (by omega), e 105 k (by omega) (by omega), e 106 k (by omega) (by omega)]
    exact hj.2 k hk
theorem hIv_up {f : Nat → Nat → Int32} {o k : Nat} {x : Int32} (hv : hIv f0 f) (ho : o = 116 ∨ o = 117) (h1 : (aiv kB o k).1 ≤ x.toInt) (h2 : x.toInt ≤ (aiv kB o k).2) : hIv f0 (zup f o k x) := by
  refine ⟨hupb hv.1 h1 h2, fun o' k' a b => ?_⟩
  rw [zne_up (fun q => by omega)]
  exact hv.2 o' k' a b
theorem hall_p {r0 : Nat → Nat → Option Nat} {N : Int} (hS : aShp kS S1) (hj : aJ (S1, f0, g, r0)) (K : ∀ (f : Nat → Nat → Int32) (r : Nat → Nat → Option Nat) (go : Int32) (l2 l3 l4 : Option Value), hIv f0 f → aRf krf r → (go = 0 ∨ (go = 1 ∧ 1530 - hUf f < N)) → zT 2 198 (48, [some (.ref 102), some (.int go), l2, l3, l4], [], (S1, f, g, r)) P) : ∀ (m : Nat) (f : Nat → Nat → Int32) (r : Nat → Nat → Option Nat) (go p : Int32) (l3 l4 : Option Value), hIv f0 f → aRf krf r → ((go = 0 ∧ 1530 - hUf f ≤ N) ∨ (go = 1 ∧ 1530 - hUf f < N)) → p.toInt = 6 - (m : Int) → m ≤ 6 → zT 2 198 (56, [some (.ref 102), some (.int go), some (.int p), l3, l4], [], (S1, f, g, r)) P := by
  have h0 : zget S1 102 = some (22, 49) := hS 102 22 49 rfl rfl
  have h116 : zget S1 116 = some (0, 8) := hS 116 0 8 rfl rfl
  have h117 : zget S1 117 = some (0, 6) := hS 117 0 6 rfl rfl
  have z1 : (1 : Int32).toInt = 1 := rfl
  have z0 : (0 : Int32).toInt = 0 := rfl
  have zm : (-1 : Int32).toInt = -1 := rfl
  have c6 : ∀ k, aiv kB 116 k = (-1, 5) := fun _ => rfl
  have c7 : ∀ k, aiv kB 117 k = (0, 255) := fun _ => rfl
  have ex : ∀ (f : Nat → Nat → Int32) (r : Nat → Nat → Option Nat) (go p : Int32) (l3 l4 : Option Value), hIv f0 f → aRf krf r → ((go = 0 ∧ 1530 - hUf f ≤ N) ∨ (go = 1 ∧ 1530 - hUf f < N)) → zT 2 198 (191, [some (.ref 102), some (.int go), some (.int p), l3, l4], [], (S1, f, g, r)) P := by
    intro f r go p l3 l4 hv hr hc
    refine zT_stp (pc := 191) (e := (17, 3, 48, 0, 0, .null, [])) rfl rfl ?_
    refine K f r go _ _ _ hv hr ?_
    rcases hc with w | w
    · exact Or.inl w.1
    · exact Or.inr w
  intro m
  induction m with
  | zero =>
    intro f r go p l3 l4 hv hr hc hp hm
    have bh := hv.1 102 6
    rw [show aiv kB 102 6 = (0, 6) from rfl] at bh
    dsimp only at bh
    refine zT_stp (pc := 56) (e := (1, 1, 2, 0, 0, .null, [])) rfl rfl ?_
    refine zT_stp (pc := 57) (e := (3, 1, 0, 0, 0, .null, [])) rfl rfl ?_
    refine zT_stp (pc := 58) (e := (20, 3, 12, 6, 0, .null, [(0, 1058)])) rfl (hgi h0 rfl) ?_
    refine zT_stp (pc := 61) (e := (16, 3, 191, 3, 0, .null, [])) (y := (191, [some (.ref 102), some (.int go), some (.int p), l3, l4], [], (S1, f, g, r))) rfl ?_ ?_
    · show some (Sum.inl (zicmp 3 p (f 102 6) 191 64, _, _, _)) = _
      rw [show zicmp 3 p (f 102 6) 191 64 = 191 from if_neg (fun w => by have := Int32.lt_iff_toInt_lt.mp w; omega)]
    exact ex f r go p _ _ hv hr hc
  | succ m ih =>
    intro f r go p l3 l4 hv hr hc hp hm
    have bh := hv.1 102 6
    rw [show aiv kB 102 6 = (0, 6) from rfl] at bh
    dsimp only at bh
    have ep : (p + 1).toInt = p.toInt + 1 := by
      rw [na_add (by rw [z1]; omega) (by rw [z1]; omega), z1]
    refine zT_stp (pc := 56) (e := (1, 1, 2, 0, 0, .null, [])) rfl rfl ?_
    refine zT_stp (pc := 57) (e := (3, 1, 0, 0, 0, .null, [])) rfl rfl ?_
    refine zT_stp (pc := 58) (e := (20, 3, 12, 6, 0, .null, [(0, 1058)])) rfl (hgi h0 rfl) ?_
    by_cases hq : p < f 102 6
    · refine zT_stp (pc := 61) (e := (16, 3, 191, 3, 0, .null, [])) (y := (64, [some (.ref 102), some (.int go), some (.int p), l3, l4], [], (S1, f, g, r))) rfl ?_ ?_
      · show some (Sum.inl (zicmp 3 p (f 102 6) 191 64, _, _, _)) = _
        rw [show zicmp 3 p (f 102 6) 191 64 = 64 from if_pos hq]
      have zp := azix (i := p) (by omega)
      have i6 : Nat.blt (zix p) 6 = true := by rw [Nat.blt_eq]; omega
      refine zT_stp (pc := 64) (e := (0, 1, 0, 0, 0, .int (-1), [])) rfl rfl ?_
      refine zT_stp (pc := 65) (e := (4, 1, 3, 0, 0, .null, [])) rfl rfl ?_
      refine zT_stp (pc := 66) (e := (0, 1, 0, 0, 0, .int 0, [])) rfl rfl ?_
      refine zT_stp (pc := 67) (e := (4, 2, 4, 0, 0, .null, [])) rfl rfl ?_
      refine hall_i (go := go) hS hv.1 (fun r => hIv_J hj hv) (by omega) (by omega) ?_ 8 0 (-1) r hr (Or.inl zm) rfl (by omega)
      intro best r l4 hr hbs
      have nx : ∀ (f : Nat → Nat → Int32) (r : Nat → Nat → Option Nat) (go : Int32) (l3 l4 : Option Value), hIv f0 f → aRf krf r → ((go = 0 ∧ 1530 - hUf f ≤ N) ∨ (go = 1 ∧ 1530 - hUf f < N)) → zT 2 198 (185, [some (.ref 102), some (.int go), some (.int p), l3, l4], [], (S1, f, g, r)) P := by
        intro f r go l3 l4 hv hr hc
        refine zT_stp (pc := 185) (e := (19, 3, 2, 0, 0, .int 1, [])) rfl rfl ?_
        refine zT_stp (pc := 188) (e := (17, 3, 56, 0, 0, .null, [])) rfl rfl ?_
        exact ih f r go (p + 1) l3 l4 hv hr hc (by omega) (by omega)
      refine zT_stp (pc := 120) (e := (3, 1, 0, 0, 0, .null, [])) rfl rfl ?_
      refine zT_stp (pc := 121) (e := (1, 1, 2, 0, 0, .null, [])) rfl rfl ?_
      refine zT_cal (pc := 122) (e := (32, 3, 197, 2, 48, .null, [(0, 1123)])) (y := (125, [some (.ref 102), some (.int go), some (.int p), some (.int best), l4], [], (S1, f, g, r))) rfl (show zs32 3 197 2 0 12 (122, [some (.ref 102), some (.int go), some (.int p), some (.int best), l4], [.int p, .ref 102], (S1, f, g, r)) = _ from hcall2 (st := []) h0 rfl) rfl (hu_idea hS hr hv.1 (hIv_J hj hv) (by omega) (by omega)) ?_
      rintro res h1 ⟨v, r', rfl, w1, w2, rfl, hr'⟩
      show zT 2 198 (125, [some (.ref 102), some (.int go), some (.int p), some (.int best), l4], [.int v], (S1, f, g, r')) P
      by_cases hv0 : v < 0
      · refine zT_stp (pc := 125) (e := (15, 3, 185, 3, 0, .null, [])) (y := (128, [some (.ref 102), some (.int go), some (.int p), some (.int best), l4], [], (S1, f, g, r'))) rfl ?_ ?_
        · show some (Sum.inl (zif 3 v 185 128, _, _, _)) = _
          rw [show zif 3 v 185 128 = 128 from if_pos hv0]
        refine zT_stp (pc := 128) (e := (1, 1, 3, 0, 0, .null, [])) rfl rfl ?_
        by_cases hb0 : best < 0
        · refine zT_stp (pc := 129) (e := (15, 3, 185, 2, 0, .null, [])) (y := (185, [some (.ref 102), some (.int go), some (.int p), some (.int best), l4], [], (S1, f, g, r'))) rfl ?_ ?_
          · show some (Sum.inl (zif 2 best 185 132, _, _, _)) = _
            rw [show zif 2 best 185 132 = 185 from if_pos hb0]
          exact nx f r' go _ _ hv hr' hc
        · have hb0' : ¬ best.toInt < 0 := fun w => hb0 (Int32.lt_iff_toInt_lt.mpr (by rw [z0]; exact w))
          refine zT_stp (pc := 129) (e := (15, 3, 185, 2, 0, .null, [])) (y := (132, [some (.ref 102), some (.int go), some (.int p), some (.int best), l4], [], (S1, f, g, r'))) rfl ?_ ?_
          · show some (Sum.inl (zif 2 best 185 132, _, _, _)) = _
            rw [show zif 2 best 185 132 = 132 from if_neg hb0]
          have hb2 : 0 ≤ best.toInt ∧ best.toInt ≤ 7 ∧ zbin 3 (zbin 7 (f 117 (zix p)) best) 1 ≠ 1 := by
            rcases hbs with w | w
            · omega
            · exact w
          have bx := hv.1 117 (zix p)
          rw [c7] at bx
          dsimp only at bx
          have hbt := hbit bx.1 bx.2 hb2.1 hb2.2.1 hb2.2.2
          have zb := azix (i := best) hb2.1
          have i8 : Nat.blt (zix best) 8 = true := by rw [Nat.blt_eq]; omega
          have q31 : ∀ r, aRf krf r → r 102 31 = some 116 := fun r hr => href hr rfl
          have q32 : r' 102 32 = some 117 := href hr' rfl
          refine zT_stp (pc := 132) (e := (0, 1, 0, 0, 0, .int 1, [])) rfl rfl ?_
          refine zT_stp (pc := 133) (e := (4, 1, 1, 0, 0, .null, [])) rfl rfl ?_
          refine zT_stp (pc := 134) (e := (3, 1, 0, 0, 0, .null, [])) rfl rfl ?_
          refine zT_stp (pc := 135) (e := (20, 3, 12, 32, 1, .null, [(0, 1044)])) rfl (hgr h0 rfl q32) ?_
          refine zT_stp (pc := 138) (e := (1, 1, 2, 0, 0, .null, [])) rfl rfl ?_
          refine zT_stp (pc := 139) (e := (41, 1, 0, 0, 0, .null, [])) rfl rfl ?_
          refine zT_stp (pc := 140) (e := (22, 1, 0, 0, 0, .null, [])) rfl (hil h117 i6) ?_
          refine zT_stp (pc := 141) (e := (0, 1, 0, 0, 0, .int 1, [])) rfl rfl ?_
          refine zT_stp (pc := 142) (e := (1, 1, 3, 0, 0, .null, [])) rfl rfl ?_
          refine zT_stp (pc := 143) (e := (7, 1, 0, 6, 0, .null, [])) rfl rfl ?_
          refine zT_stp (pc := 144) (e := (7, 1, 0, 4, 0, .null, [])) rfl rfl ?_
          refine zT_stp (pc := 145) (e := (25, 1, 0, 0, 0, .null, [])) rfl (his h117 i6) ?_
          generalize hnv : zbin 4 (f 117 (zix p)) (zbin 6 1 best) = nv at hbt
          have hv1 : hIv f0 (zup f 117 (zix p) nv) := hIv_up hv (Or.inr rfl) (by rw [c7]; dsimp only; omega) (by rw [c7]; dsimp only; omega)
          have hu1 : hUf (zup f 117 (zix p) nv) = hUf f + (nv.toInt - (f 117 (zix p)).toInt) := hUf_up (by omega)
          generalize hf1 : zup f 117 (zix p) nv = f1 at hv1 hu1
          have hc1 : 1530 - hUf f1 < N := by
            rcases hc with w | w
            · have := w.2
              omega
            · have := w.2
              omega
          have by' := hv1.1 116 (zix best)
          rw [c6] at by'
          dsimp only at by'
          have fin : ∀ (r : Nat → Nat → Option Nat) (y : Int32), aRf krf r → -1 ≤ y.toInt → y.toInt ≤ 5 → zT 2 198 (184, [some (.ref 102), some (.int 1), some (.int p), some (.int best), l4], [.int y, .int best, .ref 116], (S1, f1, g, r)) P := by
            intro r y hr y0 y1
            refine zT_stp (pc := 184) (e := (25, 1, 0, 0, 0, .null, [])) rfl (his h116 i8) ?_
            exact nx _ r 1 _ _ (hIv_up hv1 (Or.inl rfl) (by rw [c6]; exact y0) (by rw [c6]; exact y1)) hr (Or.inr ⟨rfl, by rw [hUf_ne (by omega)]; exact hc1⟩)
          have t174 : ∀ (r : Nat → Nat → Option Nat), aRf krf r → zT 2 198 (174, [some (.ref 102), some (.int 1), some (.int p), some (.int best), l4], [.int best, .ref 116], (S1, f1, g, r)) P := by
            intro r hr
            refine zT_stp (pc := 174) (e := (1, 1, 2, 0, 0, .null, [])) rfl rfl ?_
            refine zT_stp (pc := 175) (e := (17, 3, 184, 0, 0, .null, [])) rfl rfl ?_
            exact fin r p hr (by omega) (by omega)
          refine zT_stp (pc := 146) (e := (3, 1, 0, 0, 0, .null, [])) rfl rfl ?_
          refine zT_stp (pc := 147) (e := (20, 3, 12, 31, 1, .null, [(0, 1043)])) rfl (hgr h0 rfl (q31 _ hr')) ?_
          refine zT_stp (pc := 150) (e := (1, 1, 3, 0, 0, .null, [])) rfl rfl ?_
          refine zT_stp (pc := 151) (e := (3, 1, 0, 0, 0, .null, [])) rfl rfl ?_
          refine zT_stp (pc := 152) (e := (20, 3, 12, 31, 1, .null, [(0, 1043)])) rfl (hgr h0 rfl (q31 _ hr')) ?_
          refine zT_stp (pc := 155) (e := (1, 1, 3, 0, 0, .null, [])) rfl rfl ?_
          refine zT_stp (pc := 156) (e := (22, 1, 0, 0, 0, .null, [])) rfl (hil h116 i8) ?_
          by_cases hy : f1 116 (zix best) < 0
          · refine zT_stp (pc := 157) (e := (15, 3, 174, 2, 0, .null, [])) (y := (174, [some (.ref 102), some (.int 1), some (.int p), some (.int best), l4], [.int best, .ref 116], (S1, f1, g, r'))) rfl ?_ ?_
            · show some (Sum.inl (zif 2 (f1 116 (zix best)) 174 160, _, _, _)) = _
              rw [show zif 2 (f1 116 (zix best)) 174 160 = 174 from if_pos hy]
              rfl
            exact t174 r' hr'
          · have hy' : ¬ (f1 116 (zix best)).toInt < 0 := fun w => hy (Int32.lt_iff_toInt_lt.mpr (by rw [z0]; exact w))
            refine zT_stp (pc := 157) (e := (15, 3, 174, 2, 0, .null, [])) (y := (160, [some (.ref 102), some (.int 1), some (.int p), some (.int best), l4], [.int best, .ref 116], (S1, f1, g, r'))) rfl ?_ ?_
            · show some (Sum.inl (zif 2 (f1 116 (zix best)) 174 160, _, _, _)) = _
              rw [show zif 2 (f1 116 (zix best)) 174 160 = 160 from if_neg hy]
              rfl
            refine zT_stp (pc := 160) (e := (3, 1, 0, 0, 0, .null, [])) rfl rfl ?_
            refine zT_stp (pc := 161) (e := (1, 1, 2, 0, 0, .null, [])) rfl rfl ?_
            refine zT_stp (pc := 162) (e := (3, 1, 0, 0, 0, .null, [])) rfl rfl ?_
            refine zT_stp (pc := 163) (e := (20, 3, 12, 31, 1, .null, [(0, 1043)])) rfl (hgr h0 rfl (q31 _ hr')) ?_
            refine zT_stp (pc := 166) (e := (1, 1, 3, 0, 0, .null, [])) rfl rfl ?_
            refine zT_stp (pc := 167) (e := (22, 1, 0, 0, 0, .null, [])) rfl (hil h116 i8) ?_
            refine zT_cal (pc := 168) (e := (32, 3, 196, 3, 48, .null, [(0, 1124)])) (y := (171, [some (.ref 102), some (.int 1), some (.int p), some (.int best), l4], [.int best, .ref 116], (S1, f1, g, r'))) rfl (show zs32 3 196 3 0 12 (168, [some (.ref 102), some (.int 1), some (.int p), some (.int best), l4], [.int (f1 116 (zix best)), .int p, .ref 102, .int best, .ref 116], (S1, f1, g, r')) = _ from hcall3 (st := [.int best, .ref 116]) h0 rfl) rfl (hu_rather hS hr' hv1.1 (hIv_J hj hv1) (by omega) (by omega) (by omega) (by omega)) ?_
            rintro res h1 ⟨v2, r2, rfl, w3, w4, rfl, hr2⟩
            show zT 2 198 (171, [some (.ref 102), some (.int 1), some (.int p), some (.int best), l4], [.int v2, .int best, .ref 116], (S1, f1, g, r2)) P
            by_cases hv2 : v2 = 0
            · refine zT_stp (pc := 171) (e := (15, 3, 178, 0, 0, .null, [])) (y := (178, [some (.ref 102), some (.int 1), some (.int p), some (.int best), l4], [.int best, .ref 116], (S1, f1, g, r2))) rfl ?_ ?_
              · show some (Sum.inl (zif 0 v2 178 174, _, _, _)) = _
                rw [show zif 0 v2 178 174 = 178 from if_pos hv2]
              refine zT_stp (pc := 178) (e := (3, 1, 0, 0, 0, .null, [])) rfl rfl ?_
              refine zT_stp (pc := 179) (e := (20, 3, 12, 31, 1, .null, [(0, 1043)])) rfl (hgr h0 rfl (q31 _ hr2)) ?_
              refine zT_stp (pc := 182) (e := (1, 1, 3, 0, 0, .null, [])) rfl rfl ?_
              refine zT_stp (pc := 183) (e := (22, 1, 0, 0, 0, .null, [])) rfl (hil h116 i8) ?_
              exact fin r2 _ hr2 by'.1 by'.2
            · refine zT_stp (pc := 171) (e := (15, 3, 178, 0, 0, .null, [])) (y := (174, [some (.ref 102), some (.int 1), some (.int p), some (.int best), l4], [.int best, .ref 116], (S1, f1, g, r2))) rfl ?_ ?_
              · show some (Sum.inl (zif 0 v2 178 174, _, _, _)) = _
                rw [show zif 0 v2 178 174 = 174 from if_neg hv2]
              exact t174 r2 hr2
      · refine zT_stp (pc := 125) (e := (15, 3, 185, 3, 0, .null, [])) (y := (185, [some (.ref 102), some (.int go), some (.int p), some (.int best), l4], [], (S1, f, g, r'))) rfl ?_ ?_
        · show some (Sum.inl (zif 3 v 185 128, _, _, _)) = _
          rw [show zif 3 v 185 128 = 185 from if_neg hv0]
        exact nx f r' go _ _ hv hr' hc
    · refine zT_stp (pc := 61) (e := (16, 3, 191, 3, 0, .null, [])) (y := (191, [some (.ref 102), some (.int go), some (.int p), l3, l4], [], (S1, f, g, r))) rfl ?_ ?_
      · show some (Sum.inl (zicmp 3 p (f 102 6) 191 64, _, _, _)) = _
        rw [show zicmp 3 p (f 102 6) 191 64 = 191 from if_neg hq]
      exact ex f r go p _ _ hv hr hc
theorem hall_w {r0 : Nat → Nat → Option Nat} (hS : aShp kS S1) (hj : aJ (S1, f0, g, r0)) : ∀ (N : Nat) (f : Nat → Nat → Int32) (r : Nat → Nat → Option Nat) (go : Int32) (l2 l3 l4 : Option Value), hIv f0 f → aRf krf r → (go = 0 ∨ (go = 1 ∧ 1530 - hUf f < (N : Int))) → zT 2 198 (48, [some (.ref 102), some (.int go), l2, l3, l4], [], (S1, f, g, r)) (aPost kS krf kB hallE [] (S1, f0, g, r0)) := by
  have out : ∀ (f : Nat → Nat → Int32) (r : Nat → Nat → Option Nat) (l2 l3 l4 : Option Value), hIv f0 f → aRf krf r → zT 2 198 (48, [some (.ref 102), some (.int 0), l2, l3, l4], [], (S1, f, g, r)) (aPost kS krf kB hallE [] (S1, f0, g, r0)) := by
    intro f r l2 l3 l4 hv hr
    refine zT_stp (pc := 48) (e := (1, 1, 1, 0, 0, .null, [])) rfl rfl ?_
    refine zT_stp (pc := 49) (e := (15, 3, 194, 0, 0, .null, [])) rfl rfl ?_
    refine zT_rtn (pc := 194) (e := (38, 1, 0, 0, 0, .null, [])) rfl rfl ?_
    refine ⟨[], ⟨rfl, fun k w q h1 h2 => by cases h1⟩, trivial, ⟨⟨hS, hr, hv.1⟩, fun o k a ha => by cases ha⟩, fun f hf => (by cases hf), fun f hf => (by cases hf), ⟨fun o k hw => ?_, fun _ => rfl, rfl⟩, hIv_J hj hv⟩
    exact hv.2 o k (fun q => by rw [q] at hw; cases hw) (fun q => by rw [q] at hw; cases hw)
  intro N
  induction N with
  | zero =>
    intro f r go l2 l3 l4 hv hr hc
    rcases hc with w | w
    · subst w
      exact out f r l2 l3 l4 hv hr
    · have := hUf_le hv.1
      have := w.2
      omega
  | succ N ih =>
    intro f r go l2 l3 l4 hv hr hc
    rcases hc with w | w
    · subst w
      exact out f r l2 l3 l4 hv hr
    · obtain ⟨w, w2⟩ := w
      subst w
      refine zT_stp (pc := 48) (e := (1, 1, 1, 0, 0, .null, [])) rfl rfl ?_
      refine zT_stp (pc := 49) (e := (15, 3, 194, 0, 0, .null, [])) rfl rfl ?_
      refine zT_stp (pc := 52) (e := (0, 1, 0, 0, 0, .int 0, [])) rfl rfl ?_
      refine zT_stp (pc := 53) (e := (4, 1, 1, 0, 0, .null, [])) rfl rfl ?_
      refine zT_stp (pc := 54) (e := (0, 1, 0, 0, 0, .int 0, [])) rfl rfl ?_
      refine zT_stp (pc := 55) (e := (4, 1, 2, 0, 0, .null, [])) rfl rfl ?_
      exact hall_p hS hj ih 6 f r 0 0 _ _ hv hr (Or.inl ⟨rfl, by omega⟩) rfl (by omega)
/-- row 117 is laid empty -/
theorem hall_b {r0 : Nat → Nat → Option Nat} (hS : aShp kS S1) (hj : aJ (S1, f0, g, r0)) : ∀ (n : Nat) (f : Nat → Nat → Int32) (r : Nat → Nat → Option Nat) (p : Int32) (l2 l3 l4 : Option Value), hIv f0 f → aRf krf r → p.toInt = 6 - (n : Int) → n ≤ 6 → zT 2 198 (25, [some (.ref 102), some (.int p), l2, l3, l4], [], (S1, f, g, r)) (aPost kS krf kB hallE [] (S1, f0, g, r0)) := by
  have h0 : zget S1 102 = some (22, 49) := hS 102 22 49 rfl rfl
  have h117 : zget S1 117 = some (0, 6) := hS 117 0 6 rfl rfl
  have z1 : (1 : Int32).toInt = 1 := rfl
  have c7 : ∀ k, aiv kB 117 k = (0, 255) := fun _ => rfl
  have ex : ∀ (f : Nat → Nat → Int32) (r : Nat → Nat → Option Nat) (p : Int32) (l2 l3 l4 : Option Value), hIv f0 f → aRf krf r → zT 2 198 (46, [some (.ref 102), some (.int p), l2, l3, l4], [], (S1, f, g, r)) (aPost kS krf kB hallE [] (S1, f0, g, r0)) := by
    intro f r p l2 l3 l4 hv hr
    refine zT_stp (pc := 46) (e := (0, 1, 0, 0, 0, .int 1, [])) rfl rfl ?_
    refine zT_stp (pc := 47) (e := (4, 1, 1, 0, 0, .null, [])) rfl rfl ?_
    have nn : ∀ k, 0 ≤ (f 117 k).toInt := fun k => (hv.1 117 k).1
    refine hall_w hS hj 1531 f r 1 _ _ _ hv hr (Or.inr ⟨rfl, ?_⟩)
    have a0 := nn 0
    have a1 := nn 1
    have a2 := nn 2
    have a3 := nn 3
    have a4 := nn 4
    have a5 := nn 5
    unfold hUf
    omega
  intro n
  induction n with
  | zero =>
    intro f r p l2 l3 l4 hv hr hp hn
    have bh := hv.1 102 6
    rw [show aiv kB 102 6 = (0, 6) from rfl] at bh
    dsimp only at bh
    refine zT_stp (pc := 25) (e := (1, 1, 1, 0, 0, .null, [])) rfl rfl ?_
    refine zT_stp (pc := 26) (e := (3, 1, 0, 0, 0, .null, [])) rfl rfl ?_
    refine zT_stp (pc := 27) (e := (20, 3, 12, 6, 0, .null, [(0, 1058)])) rfl (hgi h0 rfl) ?_
    refine zT_stp (pc := 30) (e := (16, 3, 46, 3, 0, .null, [])) (y := (46, [some (.ref 102), some (.int p), l2, l3, l4], [], (S1, f, g, r))) rfl ?_ ?_
    · show some (Sum.inl (zicmp 3 p (f 102 6) 46 33, _, _, _)) = _
      rw [show zicmp 3 p (f 102 6) 46 33 = 46 from if_neg (fun w => by have := Int32.lt_iff_toInt_lt.mp w; omega)]
    exact ex f r p _ _ _ hv hr
  | succ n ih =>
    intro f r p l2 l3 l4 hv hr hp hn
    have ep : (p + 1).toInt = p.toInt + 1 := by
      rw [na_add (by rw [z1]; omega) (by rw [z1]; omega), z1]
    have zp := azix (i := p) (by omega)
    have i6 : Nat.blt (zix p) 6 = true := by rw [Nat.blt_eq]; omega
    have q32 : r 102 32 = some 117 := href hr rfl
    refine zT_stp (pc := 25) (e := (1, 1, 1, 0, 0, .null, [])) rfl rfl ?_
    refine zT_stp (pc := 26) (e := (3, 1, 0, 0, 0, .null, [])) rfl rfl ?_
    refine zT_stp (pc := 27) (e := (20, 3, 12, 6, 0, .null, [(0, 1058)])) rfl (hgi h0 rfl) ?_
    by_cases hq : p < f 102 6
    · refine zT_stp (pc := 30) (e := (16, 3, 46, 3, 0, .null, [])) (y := (33, [some (.ref 102), some (.int p), l2, l3, l4], [], (S1, f, g, r))) rfl ?_ ?_
      · show some (Sum.inl (zicmp 3 p (f 102 6) 46 33, _, _, _)) = _
        rw [show zicmp 3 p (f 102 6) 46 33 = 33 from if_pos hq]
      refine zT_stp (pc := 33) (e := (3, 1, 0, 0, 0, .null, [])) rfl rfl ?_
      refine zT_stp (pc := 34) (e := (20, 3, 12, 32, 1, .null, [(0, 1044)])) rfl (hgr h0 rfl q32) ?_
      refine zT_stp (pc := 37) (e := (1, 1, 1, 0, 0, .null, [])) rfl rfl ?_
      refine zT_stp (pc := 38) (e := (0, 1, 0, 0, 0, .int 0, [])) rfl rfl ?_
      refine zT_stp (pc := 39) (e := (25, 1, 0, 0, 0, .null, [])) rfl (his h117 i6) ?_
      refine zT_stp (pc := 40) (e := (19, 3, 1, 0, 0, .int 1, [])) rfl rfl ?_
      refine zT_stp (pc := 43) (e := (17, 3, 25, 0, 0, .null, [])) rfl rfl ?_
      exact ih _ r (p + 1) _ _ _ (hIv_up hv (Or.inr rfl) (by rw [c7]; decide) (by rw [c7]; decide)) hr (by omega) (by omega)
    · refine zT_stp (pc := 30) (e := (16, 3, 46, 3, 0, .null, [])) (y := (46, [some (.ref 102), some (.int p), l2, l3, l4], [], (S1, f, g, r))) rfl ?_ ?_
      · show some (Sum.inl (zicmp 3 p (f 102 6) 46 33, _, _, _)) = _
        rw [show zicmp 3 p (f 102 6) 46 33 = 46 from if_neg hq]
      exact ex f r p _ _ _ hv hr
/-- row 116 is laid empty -/
theorem hall_a {r0 : Nat → Nat → Option Nat} (hS : aShp kS S1) (hj : aJ (S1, f0, g, r0)) : ∀ (n : Nat) (f : Nat → Nat → Int32) (r : Nat → Nat → Option Nat) (p : Int32) (l2 l3 l4 : Option Value), hIv f0 f → aRf krf r → p.toInt = 8 - (n : Int) → n ≤ 8 → zT 2 198 (2, [some (.ref 102), some (.int p), l2, l3, l4], [], (S1, f, g, r)) (aPost kS krf kB hallE [] (S1, f0, g, r0)) := by
  have h0 : zget S1 102 = some (22, 49) := hS 102 22 49 rfl rfl
  have h116 : zget S1 116 = some (0, 8) := hS 116 0 8 rfl rfl
  have z1 : (1 : Int32).toInt = 1 := rfl
  have c6 : ∀ k, aiv kB 116 k = (-1, 5) := fun _ => rfl
  have ex : ∀ (f : Nat → Nat → Int32) (r : Nat → Nat → Option Nat) (p : Int32) (l2 l3 l4 : Option Value), hIv f0 f → aRf krf r → zT 2 198 (23, [some (.ref 102), some (.int p), l2, l3, l4], [], (S1, f, g, r)) (aPost kS krf kB hallE [] (S1, f0, g, r0)) := by
    intro f r p l2 l3 l4 hv hr
    refine zT_stp (pc := 23) (e := (0, 1, 0, 0, 0, .int 0, [])) rfl rfl ?_
    refine zT_stp (pc := 24) (e := (4, 1, 1, 0, 0, .null, [])) rfl rfl ?_
    exact hall_b hS hj 6 f r 0 _ _ _ hv hr rfl (by omega)
  intro n
  induction n with
  | zero =>
    intro f r p l2 l3 l4 hv hr hp hn
    have bh := hv.1 102 7
    rw [show aiv kB 102 7 = (0, 8) from rfl] at bh
    dsimp only at bh
    refine zT_stp (pc := 2) (e := (1, 1, 1, 0, 0, .null, [])) rfl rfl ?_
    refine zT_stp (pc := 3) (e := (3, 1, 0, 0, 0, .null, [])) rfl rfl ?_
    refine zT_stp (pc := 4) (e := (20, 3, 12, 7, 0, .null, [(0, 1060)])) rfl (hgi h0 rfl) ?_
    refine zT_stp (pc := 7) (e := (16, 3, 23, 3, 0, .null, [])) (y := (23, [some (.ref 102), some (.int p), l2, l3, l4], [], (S1, f, g, r))) rfl ?_ ?_
    · show some (Sum.inl (zicmp 3 p (f 102 7) 23 10, _, _, _)) = _
      rw [show zicmp 3 p (f 102 7) 23 10 = 23 from if_neg (fun w => by have := Int32.lt_iff_toInt_lt.mp w; omega)]
    exact ex f r p _ _ _ hv hr
  | succ n ih =>
    intro f r p l2 l3 l4 hv hr hp hn
    have ep : (p + 1).toInt = p.toInt + 1 := by
      rw [na_add (by rw [z1]; omega) (by rw [z1]; omega), z1]
    have zp := azix (i := p) (by omega)
    have i8 : Nat.blt (zix p) 8 = true := by rw [Nat.blt_eq]; omega
    have q31 : r 102 31 = some 116 := href hr rfl
    refine zT_stp (pc := 2) (e := (1, 1, 1, 0, 0, .null, [])) rfl rfl ?_
    refine zT_stp (pc := 3) (e := (3, 1, 0, 0, 0, .null, [])) rfl rfl ?_
    refine zT_stp (pc := 4) (e := (20, 3, 12, 7, 0, .null, [(0, 1060)])) rfl (hgi h0 rfl) ?_
    by_cases hq : p < f 102 7
    · refine zT_stp (pc := 7) (e := (16, 3, 23, 3, 0, .null, [])) (y := (10, [some (.ref 102), some (.int p), l2, l3, l4], [], (S1, f, g, r))) rfl ?_ ?_
      · show some (Sum.inl (zicmp 3 p (f 102 7) 23 10, _, _, _)) = _
        rw [show zicmp 3 p (f 102 7) 23 10 = 10 from if_pos hq]
      refine zT_stp (pc := 10) (e := (3, 1, 0, 0, 0, .null, [])) rfl rfl ?_
      refine zT_stp (pc := 11) (e := (20, 3, 12, 31, 1, .null, [(0, 1043)])) rfl (hgr h0 rfl q31) ?_
      refine zT_stp (pc := 14) (e := (1, 1, 1, 0, 0, .null, [])) rfl rfl ?_
      refine zT_stp (pc := 15) (e := (0, 1, 0, 0, 0, .int (-1), [])) rfl rfl ?_
      refine zT_stp (pc := 16) (e := (25, 1, 0, 0, 0, .null, [])) rfl (his h116 i8) ?_
      refine zT_stp (pc := 17) (e := (19, 3, 1, 0, 0, .int 1, [])) rfl rfl ?_
      refine zT_stp (pc := 20) (e := (17, 3, 2, 0, 0, .null, [])) rfl rfl ?_
      exact ih _ r (p + 1) _ _ _ (hIv_up hv (Or.inl rfl) (by rw [c6]; decide) (by rw [c6]; decide)) hr (by omega) (by omega)
    · refine zT_stp (pc := 7) (e := (16, 3, 23, 3, 0, .null, [])) (y := (23, [some (.ref 102), some (.int p), l2, l3, l4], [], (S1, f, g, r))) rfl ?_ ?_
      · show some (Sum.inl (zicmp 3 p (f 102 7) 23 10, _, _, _)) = _
        rw [show zicmp 3 p (f 102 7) 23 10 = 23 from if_neg hq]
      exact ex f r p _ _ _ hv hr
end HA2
theorem hand_allAsk : aOK kS krf kB hallE := by
  intro E x R hD hsl hj
  obtain ⟨pc, lo, st, S1, f, g, r⟩ := x
  obtain ⟨hs, hpc, hl, hst, hh⟩ := R
  have hpc : 0 = pc := hpc
  subst hpc
  obtain ⟨v, h1, o, rfl, ho⟩ := hl.2 0 _ rfl
  have ho := List.mem_singleton.mp ho
  subst ho
  have est : st = [] := by
    cases st with
    | nil => rfl
    | cons _ _ => exact hst.elim
  subst est
  have eE : E = [] := List.eq_nil_of_length_eq_zero hs.1
  subst eE
  match lo, hl.1, h1 with
  | [x1, x2, x3, x4, x5], _, h1 =>
    cases h1
    show zT 2 198 (0, [some (.ref 102), x2, x3, x4, x5], [], (S1, f, g, r)) (aPost kS krf kB hallE [] (S1, f, g, r))
    refine zT_stp (pc := 0) (e := (0, 1, 0, 0, 0, .int 0, [])) rfl rfl ?_
    refine zT_stp (pc := 1) (e := (4, 1, 1, 0, 0, .null, [])) rfl rfl ?_
    exact hall_a hh.1.1 hj 8 f r 0 _ _ _ ⟨hh.1.2.2, fun _ _ _ _ => rfl⟩ hh.1.2.1 rfl (by omega)
