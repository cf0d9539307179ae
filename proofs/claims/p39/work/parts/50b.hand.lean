/-! BY HAND: undo, redo (the reference's), with what holds of rows 104 .. 106. -/
theorem zT_stp {d mi pc : Nat} {lo : List (Option Value)} {st : List Value} {h : zH} {y : zC} {e : zI} {P : Option Value → zH → Prop} (hi : zi mi pc = some e) (hs : zstep e (pc, lo, st, h) = some (.inl y)) (hk : zT d mi y P) : zT d mi (pc, lo, st, h) P := zT_step hi hs hk
theorem zT_rtn {d mi pc : Nat} {lo : List (Option Value)} {st : List Value} {h : zH} {e : zI} {P : Option Value → zH → Prop} {r : Option Value} (hi : zi mi pc = some e) (hs : zstep e (pc, lo, st, h) = some (.inr (.inr r))) (hp : P r h) : zT d mi (pc, lo, st, h) P := zT_ret hi hs hp
section HD
variable {S1 : List (Nat × Nat)} {f : Nat → Nat → Int32} {g : Nat → Nat → Int64} {r : Nat → Nat → Option Nat} {pc len b n o q : Nat} {lo : List (Option Value)} {st : List Value} {x i : Int32}
theorem hgi (h0 : zget S1 102 = some (22, 49)) (hb : Nat.blt b 49 = true) : zs20 len 12 b 0 (pc, lo, .ref 102 :: st, (S1, f, g, r)) = some (.inl (pc + len, lo, .int (f 102 b) :: st, (S1, f, g, r))) := by
  simp only [zs20]
  rw [h0]
  dsimp only
  rw [hb]
  rfl
theorem hgr (h0 : zget S1 102 = some (22, 49)) (hb : Nat.blt b 49 = true) (hq : r 102 b = some q) : zs20 len 12 b 1 (pc, lo, .ref 102 :: st, (S1, f, g, r)) = some (.inl (pc + len, lo, .ref q :: st, (S1, f, g, r))) := by
  simp only [zs20]
  rw [h0]
  dsimp only
  rw [hb, hq]
  rfl
theorem hpi (h0 : zget S1 102 = some (22, 49)) (hb : Nat.blt b 49 = true) : zs21 len 12 b 0 (pc, lo, .int x :: .ref 102 :: st, (S1, f, g, r)) = some (.inl (pc + len, lo, st, (S1, zup f 102 b x, g, r))) := by
  simp only [zs21]
  rw [h0]
  dsimp only
  rw [hb]
  rfl
theorem hil (h0 : zget S1 o = some (0, n)) (hi : Nat.blt (zix i) n = true) : zs22 len (pc, lo, .int i :: .ref o :: st, (S1, f, g, r)) = some (.inl (pc + len, lo, .int (f o (zix i)) :: st, (S1, f, g, r))) := by
  simp only [zs22]
  rw [h0]
  dsimp only
  rw [hi]
  rfl
theorem his (h0 : zget S1 o = some (0, n)) (hi : Nat.blt (zix i) n = true) : zs25 len (pc, lo, .int x :: .int i :: .ref o :: st, (S1, f, g, r)) = some (.inl (pc + len, lo, st, (S1, zup f o (zix i) x, g, r))) := by
  simp only [zs25]
  rw [h0]
  dsimp only
  rw [hi]
  rfl
theorem href (h : aRf krf r) (hk : krf 102 b = [q]) : r 102 b = some q := by
  obtain ⟨q', e1, e2⟩ := h 102 b (by rw [hk]; exact List.cons_ne_nil _ _)
  rw [hk] at e2
  rw [e1, List.mem_singleton.mp e2]
end HD
theorem hmay1 : (List.range 104).all (fun k => bif Nat.ble 60 k && Nat.ble k 67 then ieq (aiv kB 103 k).1 (-1) && ieq (aiv kB 103 k).2 5 else ieq (aiv kB 103 k).1 (-1) && ieq (aiv kB 103 k).2 99) = true := by decide +kernel
theorem hmay {k : Nat} (hk : k < 104) : (60 ≤ k → k ≤ 67 → aiv kB 103 k = (-1, 5)) ∧ (k < 60 ∨ 67 < k → aiv kB 103 k = (-1, 99)) := by
  have h := List.all_eq_true.mp hmay1 k (List.mem_range.mpr hk)
  cases hc : (Nat.ble 60 k && Nat.ble k 67)
  · rw [hc] at h
    dsimp only [cond_false] at h
    rw [Bool.and_eq_true, ieq_eq, ieq_eq] at h
    refine ⟨fun a b => ?_, fun _ => Prod.ext h.1 h.2⟩
    have c1 : Nat.ble 60 k = true := by rw [Nat.ble_eq]; exact a
    have c2 : Nat.ble k 67 = true := by rw [Nat.ble_eq]; exact b
    rw [c1, c2] at hc
    cases hc
  · rw [hc] at h
    dsimp only [cond_true] at h
    rw [Bool.and_eq_true, ieq_eq, ieq_eq] at h
    rw [Bool.and_eq_true, Nat.ble_eq, Nat.ble_eq] at hc
    exact ⟨fun _ _ => Prod.ext h.1 h.2, fun q => by omega⟩
/-- a number that a change may lay back -/
theorem hlay {f : Nat → Nat → Int32} {k : Nat} {v : Int32} (hb : ∀ o k, (aiv kB o k).1 ≤ (f o k).toInt ∧ (f o k).toInt ≤ (aiv kB o k).2) (hm : 60 ≤ (f 104 k).toInt → (f 104 k).toInt ≤ 67 → v.toInt ≤ 5) (h1 : -1 ≤ v.toInt) (h2 : v.toInt ≤ 99) : Nat.blt (zix (f 104 k)) 104 = true ∧ (aiv kB 103 (zix (f 104 k))).1 ≤ v.toInt ∧ v.toInt ≤ (aiv kB 103 (zix (f 104 k))).2 := by
  have b0 := hb 104 k
  have e0 : aiv kB 104 k = (0, 103) := rfl
  rw [e0] at b0
  dsimp only at b0
  have z := azix (i := f 104 k) b0.1
  have hk : zix (f 104 k) < 104 := by omega
  refine ⟨by rw [Nat.blt_eq]; exact hk, ?_⟩
  obtain ⟨m1, m2⟩ := hmay hk
  by_cases c : 60 ≤ zix (f 104 k) ∧ zix (f 104 k) ≤ 67
  · rw [m1 c.1 c.2]
    have := hm (by omega) (by omega)
    dsimp only
    omega
  · rw [m2 (by omega)]
    dsimp only
    omega
def hundoE : aE := (149, 0, ([], [], 0, [some (.inr [102])], []), ([], none), ([(.negSucc 4, .ofNat 40)], [], some (.inl (.inl (.inl (0, .ofNat 0)))), ([], [])), ([(102, 5)], [103]))
theorem hlo1 {lo : List (Option Value)} {E : List Int} {al : aV} (h : aLo E lo [some al]) : ∃ v, lo = [some v] ∧ aVs E v al := by
  obtain ⟨v, h1, h2⟩ := h.2 0 al rfl
  match lo, h.1, h1 with
  | [a], _, h1 =>
    cases h1
    exact ⟨v, rfl, h2⟩
theorem hupb {f : Nat → Nat → Int32} {o k : Nat} {x : Int32} (hb : ∀ o k, (aiv kB o k).1 ≤ (f o k).toInt ∧ (f o k).toInt ≤ (aiv kB o k).2) (h1 : (aiv kB o k).1 ≤ x.toInt) (h2 : x.toInt ≤ (aiv kB o k).2) : ∀ o' k', (aiv kB o' k').1 ≤ (zup f o k x o' k').toInt ∧ (zup f o k x o' k').toInt ≤ (aiv kB o' k').2 := by
  intro o' k'
  by_cases hq : o' = o ∧ k' = k
  · obtain ⟨rfl, rfl⟩ := hq
    rw [zsame_up]
    exact ⟨h1, h2⟩
  · rw [zne_up hq]
    exact hb o' k'
theorem hJ_of {S1 : List (Nat × Nat)} {f f' : Nat → Nat → Int32} {g : Nat → Nat → Int64} {r : Nat → Nat → Option Nat} (hj : aJ (S1, f, g, r)) (h5 : (f' 102 5).toInt ≤ (f' 102 4).toInt) (e4 : ∀ k, f' 104 k = f 104 k) (e5 : ∀ k, f' 105 k = f 105 k) (e6 : ∀ k, f' 106 k = f 106 k) : aJ (S1, f', g, r) := by
  refine ⟨h5, fun k hk => ?_⟩
  show 60 ≤ (f' 104 k).toInt → (f' 104 k).toInt ≤ 67 → (f' 105 k).toInt ≤ 5 ∧ (f' 106 k).toInt ≤ 5
  rw [e4, e5, e6]
  exact hj.2 k hk
theorem hand_undo : aOK kS krf kB hundoE := by
  intro E x R hD hsl hj
  obtain ⟨pc, lo, st, S1, f, g, r⟩ := x
  obtain ⟨hs, hpc, hl, hst, hh⟩ := R
  have hpc : 0 = pc := hpc
  subst hpc
  obtain ⟨v, rfl, o, rfl, ho⟩ := hlo1 hl
  have ho := List.mem_singleton.mp ho
  subst ho
  have est : st = [] := by
    cases st with
    | nil => rfl
    | cons _ _ => exact hst.elim
  subst est
  have eE : E = [] := List.eq_nil_of_length_eq_zero hs.1
  subst eE
  have h0 : zget S1 102 = some (22, 49) := hh.1.1 102 22 49 rfl rfl
  have h103 : zget S1 103 = some (0, 104) := hh.1.1 103 0 104 rfl rfl
  have h104 : zget S1 104 = some (0, 40) := hh.1.1 104 0 40 rfl rfl
  have h105 : zget S1 105 = some (0, 40) := hh.1.1 105 0 40 rfl rfl
  have q0 : r 102 0 = some 103 := href hh.1.2.1 rfl
  have q1 : r 102 1 = some 104 := href hh.1.2.1 rfl
  have q2 : r 102 2 = some 105 := href hh.1.2.1 rfl
  have hb := hh.1.2.2
  dsimp only at hb
  have bd := hb 102 5
  rw [show aiv kB 102 5 = (0, 40) from rfl] at bd
  dsimp only at bd
  have hj1 : (f 102 5).toInt ≤ (f 102 4).toInt := hj.1
  show zT 0 149 (0, [some (.ref 102)], [], (S1, f, g, r)) (aPost kS krf kB hundoE [] (S1, f, g, r))
  refine zT_stp (pc := 0) (e := (3, 1, 0, 0, 0, .null, [])) rfl rfl ?_
  refine zT_stp (pc := 1) (e := (20, 3, 12, 5, 0, .null, [(0, 1056)])) rfl (hgi h0 rfl) ?_
  by_cases hz : f 102 5 = 0
  · refine zT_stp (pc := 4) (e := (15, 3, 10, 1, 0, .null, [])) (y := (7, [some (.ref 102)], [], (S1, f, g, r))) rfl ?_ ?_
    · show some (Sum.inl (zif 1 (f 102 5) 10 7, _, _, _)) = _
      rw [hz]
      rfl
    refine zT_stp (pc := 7) (e := (0, 2, 0, 0, 0, .int (-5), [])) rfl rfl ?_
    refine zT_rtn (pc := 9) (e := (35, 1, 0, 0, 0, .null, [])) rfl rfl ?_
    exact ⟨[-5], ⟨rfl, fun k w q h1 h2 => by
      match k, h1, h2 with
      | 0, h1, h2 =>
        cases h1
        cases h2
        decide⟩, ⟨_, rfl, -5, rfl, rfl⟩, ⟨hh.1, fun o k a ha => by cases ha⟩, fun f hf => (by cases hf), fun f hf => (by cases hf), aFr_refl, hj⟩
  · have z0 : (0 : Int32).toInt = 0 := rfl
    have z1 : (1 : Int32).toInt = 1 := rfl
    have d0 : (f 102 5).toInt ≠ 0 := fun w => hz (Int32.toInt_inj.mp (by rw [w, z0]))
    have ed : (f 102 5 - 1).toInt = (f 102 5).toInt - 1 := by
      rw [na_sub (by rw [z1]; omega) (by rw [z1]; omega), z1]
    have zd := azix (i := f 102 5 - 1) (by omega)
    refine zT_stp (pc := 4) (e := (15, 3, 10, 1, 0, .null, [])) (y := (10, [some (.ref 102)], [], (S1, f, g, r))) rfl ?_ ?_
    · show some (Sum.inl (zif 1 (f 102 5) 10 7, _, _, _)) = _
      rw [show zif 1 (f 102 5) 10 7 = 10 from if_neg hz]
    refine zT_stp (pc := 10) (e := (3, 1, 0, 0, 0, .null, [])) rfl rfl ?_
    refine zT_stp (pc := 11) (e := (39, 1, 0, 0, 0, .null, [])) rfl rfl ?_
    refine zT_stp (pc := 12) (e := (20, 3, 12, 5, 0, .null, [(0, 1056)])) rfl (hgi h0 rfl) ?_
    refine zT_stp (pc := 15) (e := (0, 1, 0, 0, 0, .int 1, [])) rfl rfl ?_
    refine zT_stp (pc := 16) (e := (7, 1, 0, 1, 0, .null, [])) rfl rfl ?_
    refine zT_stp (pc := 17) (e := (21, 3, 12, 5, 0, .null, [(0, 1056)])) rfl (hpi h0 rfl) ?_
    have e1 : zbin 1 (f 102 5) 1 = f 102 5 - 1 := rfl
    rw [e1]
    refine zT_stp (pc := 20) (e := (3, 1, 0, 0, 0, .null, [])) rfl rfl ?_
    refine zT_stp (pc := 21) (e := (20, 3, 12, 0, 1, .null, [(0, 1030)])) rfl (hgr h0 rfl q0) ?_
    refine zT_stp (pc := 24) (e := (3, 1, 0, 0, 0, .null, [])) rfl rfl ?_
    refine zT_stp (pc := 25) (e := (20, 3, 12, 1, 1, .null, [(0, 1031)])) rfl (hgr h0 rfl q1) ?_
    refine zT_stp (pc := 28) (e := (3, 1, 0, 0, 0, .null, [])) rfl rfl ?_
    refine zT_stp (pc := 29) (e := (20, 3, 12, 5, 0, .null, [(0, 1056)])) rfl (hgi h0 rfl) ?_
    rw [zsame_up]
    have i1 : Nat.blt (zix (f 102 5 - 1)) 40 = true := by rw [Nat.blt_eq]; omega
    refine zT_stp (pc := 32) (e := (22, 1, 0, 0, 0, .null, [])) rfl (hil h104 i1) ?_
    rw [zne_up (show ¬ (104 = 102 ∧ zix (f 102 5 - 1) = 5) by omega)]
    refine zT_stp (pc := 33) (e := (3, 1, 0, 0, 0, .null, [])) rfl rfl ?_
    refine zT_stp (pc := 34) (e := (20, 3, 12, 2, 1, .null, [(0, 1032)])) rfl (hgr h0 rfl q2) ?_
    refine zT_stp (pc := 37) (e := (3, 1, 0, 0, 0, .null, [])) rfl rfl ?_
    refine zT_stp (pc := 38) (e := (20, 3, 12, 5, 0, .null, [(0, 1056)])) rfl (hgi h0 rfl) ?_
    rw [zsame_up]
    refine zT_stp (pc := 41) (e := (22, 1, 0, 0, 0, .null, [])) rfl (hil h105 i1) ?_
    rw [zne_up (show ¬ (105 = 102 ∧ zix (f 102 5 - 1) = 5) by omega)]
    have bw := hb 105 (zix (f 102 5 - 1))
    rw [show aiv kB 105 (zix (f 102 5 - 1)) = (-1, 99) from rfl] at bw
    dsimp only at bw
    have hk40 : zix (f 102 5 - 1) < 40 := by omega
    obtain ⟨l1, l2, l3⟩ := hlay (v := f 105 (zix (f 102 5 - 1))) hb (fun a b => (hj.2 _ hk40 a b).1) bw.1 bw.2
    refine zT_stp (pc := 42) (e := (25, 1, 0, 0, 0, .null, [])) rfl (his h103 l1) ?_
    refine zT_stp (pc := 43) (e := (3, 1, 0, 0, 0, .null, [])) rfl rfl ?_
    refine zT_stp (pc := 44) (e := (20, 3, 12, 5, 0, .null, [(0, 1056)])) rfl (hgi h0 rfl) ?_
    rw [zne_up (show ¬ (102 = 103 ∧ 5 = zix (f 104 (zix (f 102 5 - 1)))) by omega), zsame_up]
    refine zT_rtn (pc := 47) (e := (35, 1, 0, 0, 0, .null, [])) rfl rfl ?_
    refine ⟨[(f 102 5 - 1).toInt], ⟨rfl, fun k w q h1 h2 => ?_⟩, ⟨_, rfl, _, rfl, (Int.add_zero _).symm⟩, ⟨⟨hh.1.1, hh.1.2.1, ?_⟩, fun o k a ha => by cases ha⟩, fun f hf => (by cases hf), fun f hf => (by cases hf), ⟨fun o k hw => ?_, fun _ => rfl, rfl⟩, ?_⟩
    · match k, h1, h2 with
      | 0, h1, h2 =>
        cases h1
        cases h2
        show (Int.negSucc 4 : Int) ≤ _ ∧ _ ≤ (Int.ofNat 40 : Int)
        simp only [Int.negSucc_eq, Int.ofNat_eq_natCast]
        omega
    · refine hupb (hupb hb ?_ ?_) l2 l3
      · rw [show aiv kB 102 5 = (0, 40) from rfl]
        dsimp only
        omega
      · rw [show aiv kB 102 5 = (0, 40) from rfl]
        dsimp only
        omega
    · dsimp only
      rw [zne_up (fun q => by rw [q.1] at hw; cases hw), zne_up (fun q => by rw [q.1, q.2] at hw; cases hw)]
    · refine hJ_of hj ?_ (fun k => ?_) (fun k => ?_) (fun k => ?_)
      · rw [zne_up (by omega), zsame_up, zne_up (by omega), zne_up (by omega)]
        omega
      · rw [zne_up (by omega), zne_up (by omega)]
      · rw [zne_up (by omega), zne_up (by omega)]
      · rw [zne_up (by omega), zne_up (by omega)]
def hredoE : aE := (150, 0, ([], [], 0, [some (.inr [102])], []), ([], none), ([(.negSucc 4, .ofNat 40)], [], some (.inl (.inl (.inl (0, .ofNat 0)))), ([], [])), ([(102, 5)], [103]))
theorem hand_redo : aOK kS krf kB hredoE := by
  intro E x R hD hsl hj
  obtain ⟨pc, lo, st, S1, f, g, r⟩ := x
  obtain ⟨hs, hpc, hl, hst, hh⟩ := R
  have hpc : 0 = pc := hpc
  subst hpc
  obtain ⟨v, rfl, o, rfl, ho⟩ := hlo1 hl
  have ho := List.mem_singleton.mp ho
  subst ho
  have est : st = [] := by
    cases st with
    | nil => rfl
    | cons _ _ => exact hst.elim
  subst est
  have eE : E = [] := List.eq_nil_of_length_eq_zero hs.1
  subst eE
  have h0 : zget S1 102 = some (22, 49) := hh.1.1 102 22 49 rfl rfl
  have h103 : zget S1 103 = some (0, 104) := hh.1.1 103 0 104 rfl rfl
  have h104 : zget S1 104 = some (0, 40) := hh.1.1 104 0 40 rfl rfl
  have h106 : zget S1 106 = some (0, 40) := hh.1.1 106 0 40 rfl rfl
  have q0 : r 102 0 = some 103 := href hh.1.2.1 rfl
  have q1 : r 102 1 = some 104 := href hh.1.2.1 rfl
  have q3 : r 102 3 = some 106 := href hh.1.2.1 rfl
  have hb := hh.1.2.2
  dsimp only at hb
  have bd := hb 102 5
  rw [show aiv kB 102 5 = (0, 40) from rfl] at bd
  dsimp only at bd
  have hj1 : (f 102 5).toInt ≤ (f 102 4).toInt := hj.1
  have bk := hb 102 4
  rw [show aiv kB 102 4 = (0, 40) from rfl] at bk
  dsimp only at bk
  show zT 0 150 (0, [some (.ref 102)], [], (S1, f, g, r)) (aPost kS krf kB hredoE [] (S1, f, g, r))
  refine zT_stp (pc := 0) (e := (3, 1, 0, 0, 0, .null, [])) rfl rfl ?_
  refine zT_stp (pc := 1) (e := (20, 3, 12, 5, 0, .null, [(0, 1056)])) rfl (hgi h0 rfl) ?_
  refine zT_stp (pc := 4) (e := (3, 1, 0, 0, 0, .null, [])) rfl rfl ?_
  refine zT_stp (pc := 5) (e := (20, 3, 12, 4, 0, .null, [(0, 1057)])) rfl (hgi h0 rfl) ?_
  by_cases hz : f 102 5 = f 102 4
  · refine zT_stp (pc := 8) (e := (16, 3, 14, 1, 0, .null, [])) (y := (11, [some (.ref 102)], [], (S1, f, g, r))) rfl ?_ ?_
    · show some (Sum.inl (zicmp 1 (f 102 5) (f 102 4) 14 11, _, _, _)) = _
      rw [show zicmp 1 (f 102 5) (f 102 4) 14 11 = 11 from if_pos hz]
    refine zT_stp (pc := 11) (e := (0, 2, 0, 0, 0, .int (-5), [])) rfl rfl ?_
    refine zT_rtn (pc := 13) (e := (35, 1, 0, 0, 0, .null, [])) rfl rfl ?_
    exact ⟨[-5], ⟨rfl, fun k w q h1 h2 => by
      match k, h1, h2 with
      | 0, h1, h2 =>
        cases h1
        cases h2
        decide⟩, ⟨_, rfl, -5, rfl, rfl⟩, ⟨hh.1, fun o k a ha => by cases ha⟩, fun f hf => (by cases hf), fun f hf => (by cases hf), aFr_refl, hj⟩
  · have z1 : (1 : Int32).toInt = 1 := rfl
    have d0 : (f 102 5).toInt ≠ (f 102 4).toInt := fun w => hz (Int32.toInt_inj.mp w)
    have ed : (f 102 5 + 1).toInt = (f 102 5).toInt + 1 := by
      rw [na_add (by rw [z1]; omega) (by rw [z1]; omega), z1]
    have zd := azix (i := f 102 5) (by omega)
    refine zT_stp (pc := 8) (e := (16, 3, 14, 1, 0, .null, [])) (y := (14, [some (.ref 102)], [], (S1, f, g, r))) rfl ?_ ?_
    · show some (Sum.inl (zicmp 1 (f 102 5) (f 102 4) 14 11, _, _, _)) = _
      rw [show zicmp 1 (f 102 5) (f 102 4) 14 11 = 14 from if_neg hz]
    refine zT_stp (pc := 14) (e := (3, 1, 0, 0, 0, .null, [])) rfl rfl ?_
    refine zT_stp (pc := 15) (e := (20, 3, 12, 0, 1, .null, [(0, 1030)])) rfl (hgr h0 rfl q0) ?_
    refine zT_stp (pc := 18) (e := (3, 1, 0, 0, 0, .null, [])) rfl rfl ?_
    refine zT_stp (pc := 19) (e := (20, 3, 12, 1, 1, .null, [(0, 1031)])) rfl (hgr h0 rfl q1) ?_
    refine zT_stp (pc := 22) (e := (3, 1, 0, 0, 0, .null, [])) rfl rfl ?_
    refine zT_stp (pc := 23) (e := (20, 3, 12, 5, 0, .null, [(0, 1056)])) rfl (hgi h0 rfl) ?_
    have i1 : Nat.blt (zix (f 102 5)) 40 = true := by rw [Nat.blt_eq]; omega
    refine zT_stp (pc := 26) (e := (22, 1, 0, 0, 0, .null, [])) rfl (hil h104 i1) ?_
    refine zT_stp (pc := 27) (e := (3, 1, 0, 0, 0, .null, [])) rfl rfl ?_
    refine zT_stp (pc := 28) (e := (20, 3, 12, 3, 1, .null, [(0, 1033)])) rfl (hgr h0 rfl q3) ?_
    refine zT_stp (pc := 31) (e := (3, 1, 0, 0, 0, .null, [])) rfl rfl ?_
    refine zT_stp (pc := 32) (e := (20, 3, 12, 5, 0, .null, [(0, 1056)])) rfl (hgi h0 rfl) ?_
    refine zT_stp (pc := 35) (e := (22, 1, 0, 0, 0, .null, [])) rfl (hil h106 i1) ?_
    have bw := hb 106 (zix (f 102 5))
    rw [show aiv kB 106 (zix (f 102 5)) = (-1, 99) from rfl] at bw
    dsimp only at bw
    have hk40 : zix (f 102 5) < 40 := by omega
    obtain ⟨l1, l2, l3⟩ := hlay (v := f 106 (zix (f 102 5))) hb (fun a b => (hj.2 _ hk40 a b).2) bw.1 bw.2
    refine zT_stp (pc := 36) (e := (25, 1, 0, 0, 0, .null, [])) rfl (his h103 l1) ?_
    refine zT_stp (pc := 37) (e := (3, 1, 0, 0, 0, .null, [])) rfl rfl ?_
    refine zT_stp (pc := 38) (e := (39, 1, 0, 0, 0, .null, [])) rfl rfl ?_
    refine zT_stp (pc := 39) (e := (20, 3, 12, 5, 0, .null, [(0, 1056)])) rfl (hgi h0 rfl) ?_
    rw [zne_up (show ¬ (102 = 103 ∧ 5 = zix (f 104 (zix (f 102 5)))) by omega)]
    refine zT_stp (pc := 42) (e := (0, 1, 0, 0, 0, .int 1, [])) rfl rfl ?_
    refine zT_stp (pc := 43) (e := (7, 1, 0, 0, 0, .null, [])) rfl rfl ?_
    refine zT_stp (pc := 44) (e := (21, 3, 12, 5, 0, .null, [(0, 1056)])) rfl (hpi h0 rfl) ?_
    have e1 : zbin 0 (f 102 5) 1 = f 102 5 + 1 := rfl
    rw [e1]
    refine zT_stp (pc := 47) (e := (3, 1, 0, 0, 0, .null, [])) rfl rfl ?_
    refine zT_stp (pc := 48) (e := (20, 3, 12, 4, 0, .null, [(0, 1057)])) rfl (hgi h0 rfl) ?_
    rw [zne_up (show ¬ (102 = 102 ∧ 4 = 5) by omega), zne_up (show ¬ (102 = 103 ∧ 4 = zix (f 104 (zix (f 102 5)))) by omega)]
    refine zT_stp (pc := 51) (e := (3, 1, 0, 0, 0, .null, [])) rfl rfl ?_
    refine zT_stp (pc := 52) (e := (20, 3, 12, 5, 0, .null, [(0, 1056)])) rfl (hgi h0 rfl) ?_
    rw [zsame_up]
    refine zT_stp (pc := 55) (e := (7, 1, 0, 1, 0, .null, [])) rfl rfl ?_
    have e2 : zbin 1 (f 102 4) (f 102 5 + 1) = f 102 4 - (f 102 5 + 1) := rfl
    rw [e2]
    have ee : (f 102 4 - (f 102 5 + 1)).toInt = (f 102 4).toInt - ((f 102 5).toInt + 1) := by
      rw [na_sub (by rw [ed]; omega) (by rw [ed]; omega), ed]
    refine zT_rtn (pc := 56) (e := (35, 1, 0, 0, 0, .null, [])) rfl rfl ?_
    refine ⟨[(f 102 4 - (f 102 5 + 1)).toInt], ⟨rfl, fun k w q h1 h2 => ?_⟩, ⟨_, rfl, _, rfl, (Int.add_zero _).symm⟩, ⟨⟨hh.1.1, hh.1.2.1, ?_⟩, fun o k a ha => by cases ha⟩, fun f hf => (by cases hf), fun f hf => (by cases hf), ⟨fun o k hw => ?_, fun _ => rfl, rfl⟩, ?_⟩
    · match k, h1, h2 with
      | 0, h1, h2 =>
        cases h1
        cases h2
        show (Int.negSucc 4 : Int) ≤ _ ∧ _ ≤ (Int.ofNat 40 : Int)
        simp only [Int.negSucc_eq, Int.ofNat_eq_natCast]
        omega
    · refine hupb (hupb hb l2 l3) ?_ ?_
      · rw [show aiv kB 102 5 = (0, 40) from rfl]
        dsimp only
        omega
      · rw [show aiv kB 102 5 = (0, 40) from rfl]
        dsimp only
        omega
    · dsimp only
      rw [zne_up (fun q => by rw [q.1, q.2] at hw; cases hw), zne_up (fun q => by rw [q.1] at hw; cases hw)]
    · refine hJ_of hj ?_ (fun k => ?_) (fun k => ?_) (fun k => ?_)
      · rw [zsame_up, zne_up (by omega), zne_up (by omega)]
        omega
      · rw [zne_up (by omega), zne_up (by omega)]
      · rw [zne_up (by omega), zne_up (by omega)]
      · rw [zne_up (by omega), zne_up (by omega)]
