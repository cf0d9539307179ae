/-! BY HAND: allAsk (the reference's): what it uses. -/
theorem zT_cal {d mi pc a : Nat} {lo : List (Option Value)} {st : List Value} {h : zH} {as : List Value} {y : zC} {e : zI} {P Q : Option Value → zH → Prop} (hi : zi mi pc = some e) (hs : zstep e (pc, lo, st, h) = some (.inr (.inl (a, as, y)))) (hl : (zpad (zL a) (zargs as)).length = zL a) (hc : zT d a (0, zpad (zL a) (zargs as), [], h) Q) (hk : ∀ r h1, Q r h1 → zT (d + 1) mi (y.1, y.2.1, r.toList ++ y.2.2.1, h1) P) : zT (d + 1) mi (pc, lo, st, h) P := zT_call hi hs hl hc hk
theorem huse {e : aE} {E : List Int} {lo hi : Int} {pc : Nat} {ll : List (Option Value)} {st : List Value} {S1 : List (Nat × Nat)} {f : Nat → Nat → Int32} {g : Nat → Nat → Int64} {r : Nat → Nat → Option Nat} (he : aOK kS krf kB e) (hpost : e.2.2.2.2.1 = ([(lo, hi)], [], some (.inl (.inl (.inl (E.length, .ofNat 0)))), ([], []))) (hW : e.2.2.2.2.2 = ([], [])) (hsl : e.2.2.2.1 = ([], none)) (R : aRel kS krf (aiv kB) E e.2.2.1 (pc, ll, st, (S1, f, g, r))) (hj : aJ (S1, f, g, r)) : zT e.2.1 e.1 (pc, ll, st, (S1, f, g, r)) (fun res h1 => ∃ v r', res = some (.int v) ∧ lo ≤ v.toInt ∧ v.toInt ≤ hi ∧ h1 = (S1, f, g, r') ∧ aRf krf r') := by
  refine zT_mono (he E _ R (by rw [hsl]; exact fun f hf => by cases hf) (by rw [hsl]; exact fun k hk => by cases hk) hj) (fun res h1 hp => ?_)
  obtain ⟨q, p1, p2, p3, p4, p5, p6, p7⟩ := hp
  rw [hpost] at p1 p2
  rw [hW] at p6
  obtain ⟨S', f', g', r'⟩ := h1
  have ef : f' = f := funext (fun o => funext (fun k => p6.1 o k (show (!Nat.beq o 0 && false) = false from Bool.and_false _)))
  have eg : g' = g := p6.2.1 rfl
  have eS : S' = S1 := p6.2.2
  subst ef
  subst eg
  subst eS
  match q, p1, p2 with
  | [w], p1, p2 =>
    match res, p2 with
    | some u, p2 =>
      obtain ⟨v, rfl, w', g1, g2⟩ := p2
      rw [zget_end] at g1
      cases g1
      have b := p1.2 0 w (lo, hi) rfl rfl
      have g2 : v.toInt = w + 0 := g2
      exact ⟨v, r', rfl, by omega, by omega, rfl, p3.1.2.1⟩
  | [], p1, _ => cases p1.1
  | _ :: _ :: _, p1, _ => cases p1.1
section HU
variable {S1 : List (Nat × Nat)} {f : Nat → Nat → Int32} {g : Nat → Nat → Int64} {r : Nat → Nat → Option Nat} {p i o : Int32} {x k : Int32} {h : zH}
theorem hu_idea (hS : aShp kS S1) (hr : aRf krf r) (hb : hBd f) (hj : aJ (S1, f, g, r)) (p0 : 0 ≤ p.toInt) (p5 : p.toInt ≤ 5) : zT 1 197 (0, zpad (zL 197) (zargs [.ref 102, .int p]), [], (S1, f, g, r)) (fun res h1 => ∃ v r', res = some (.int v) ∧ (Int.negSucc 0) ≤ v.toInt ∧ v.toInt ≤ (Int.ofNat 7) ∧ h1 = (S1, f, g, r') ∧ aRf krf r') := by
  refine zT_deep (d := 0) (huse (e := kE9001) (E := [p.toInt]) kok9001 rfl rfl rfl ⟨⟨rfl, fun k w q h1 h2 => ?_⟩, rfl, ⟨rfl, fun i a ha => ?_⟩, trivial, ⟨hS, hr, hb⟩, fun o k a ha => by cases ha⟩ hj) (by omega)
  · match k, h1, h2 with
    | 0, h1, h2 =>
      cases h1
      cases h2
      simp only [Int.ofNat_eq_natCast]
      omega
  · match i, ha with
    | 0, ha => cases ha; exact ⟨_, rfl, 102, rfl, List.mem_singleton.mpr rfl⟩
    | 1, ha => cases ha; exact ⟨_, rfl, p, rfl, p.toInt, rfl, (Int.add_zero _).symm⟩
    | 2, ha => cases ha
    | n + 3, ha => cases ha
theorem hu_rather (hS : aShp kS S1) (hr : aRf krf r) (hb : hBd f) (hj : aJ (S1, f, g, r)) (p0 : 0 ≤ p.toInt) (p5 : p.toInt ≤ 5) (i0 : 0 ≤ i.toInt) (i5 : i.toInt ≤ 5) : zT 1 196 (0, zpad (zL 196) (zargs [.ref 102, .int p, .int i]), [], (S1, f, g, r)) (fun res h1 => ∃ v r', res = some (.int v) ∧ (Int.ofNat 0) ≤ v.toInt ∧ v.toInt ≤ (Int.ofNat 1) ∧ h1 = (S1, f, g, r') ∧ aRf krf r') := by
  refine zT_deep (d := 0) (huse (e := kE9002) (E := [p.toInt, i.toInt]) kok9002 rfl rfl rfl ⟨⟨rfl, fun k w q h1 h2 => ?_⟩, rfl, ⟨rfl, fun i a ha => ?_⟩, trivial, ⟨hS, hr, hb⟩, fun o k a ha => by cases ha⟩ hj) (by omega)
  · match k, h1, h2 with
    | 0, h1, h2 =>
      cases h1
      cases h2
      simp only [Int.ofNat_eq_natCast]
      omega
    | 1, h1, h2 =>
      cases h1
      cases h2
      simp only [Int.ofNat_eq_natCast]
      omega
  · match i, ha with
    | 0, ha => cases ha; exact ⟨_, rfl, 102, rfl, List.mem_singleton.mpr rfl⟩
    | 1, ha => cases ha; exact ⟨_, rfl, _, rfl, _, rfl, (Int.add_zero _).symm⟩
    | 2, ha => cases ha; exact ⟨_, rfl, _, rfl, _, rfl, (Int.add_zero _).symm⟩
    | n + 3, ha => cases ha
theorem hu_head (hS : aShp kS S1) (hr : aRf krf r) (hb : hBd f) (hj : aJ (S1, f, g, r)) (p0 : 0 ≤ p.toInt) (p5 : p.toInt ≤ 5) (i0 : 0 ≤ i.toInt) (i7 : i.toInt ≤ 7) (o0 : 0 ≤ o.toInt) (o7 : o.toInt ≤ 7) : zT 1 195 (0, zpad (zL 195) (zargs [.ref 102, .int p, .int i, .int o]), [], (S1, f, g, r)) (fun res h1 => ∃ v r', res = some (.int v) ∧ (Int.ofNat 0) ≤ v.toInt ∧ v.toInt ≤ (Int.ofNat 1) ∧ h1 = (S1, f, g, r') ∧ aRf krf r') := by
  refine huse (e := kE9000) (E := [p.toInt, i.toInt, o.toInt]) kok9000 rfl rfl rfl ⟨⟨rfl, fun k w q h1 h2 => ?_⟩, rfl, ⟨rfl, fun i a ha => ?_⟩, trivial, ⟨hS, hr, hb⟩, fun o k a ha => by cases ha⟩ hj
  · match k, h1, h2 with
    | 0, h1, h2 =>
      cases h1
      cases h2
      simp only [Int.ofNat_eq_natCast]
      omega
    | 1, h1, h2 =>
      cases h1
      cases h2
      simp only [Int.ofNat_eq_natCast]
      omega
    | 2, h1, h2 =>
      cases h1
      cases h2
      simp only [Int.ofNat_eq_natCast]
      omega
  · match i, ha with
    | 0, ha => cases ha; exact ⟨_, rfl, 102, rfl, List.mem_singleton.mpr rfl⟩
    | 1, ha => cases ha; exact ⟨_, rfl, _, rfl, _, rfl, (Int.add_zero _).symm⟩
    | 2, ha => cases ha; exact ⟨_, rfl, _, rfl, _, rfl, (Int.add_zero _).symm⟩
    | 3, ha => cases ha; exact ⟨_, rfl, _, rfl, _, rfl, (Int.add_zero _).symm⟩
    | 4, ha => cases ha
    | 5, ha => cases ha
    | n + 6, ha => cases ha
theorem hu_isin : zT 1 144 (0, zpad (zL 144) (zargs [.int x, .int k]), [], h) (fun res h1 => h1 = h ∧ ((zbin 3 (zbin 7 x k) 1 = 1 ∧ res = some (.int 1)) ∨ (zbin 3 (zbin 7 x k) 1 ≠ 1 ∧ res = some (.int 0)))) := by
  show zT 1 144 (0, [some (.int x), some (.int k)], [], h) _
  refine zT_stp (pc := 0) (e := (1, 1, 0, 0, 0, .null, [])) rfl rfl ?_
  refine zT_stp (pc := 1) (e := (1, 1, 1, 0, 0, .null, [])) rfl rfl ?_
  refine zT_stp (pc := 2) (e := (7, 1, 0, 7, 0, .null, [])) rfl rfl ?_
  refine zT_stp (pc := 3) (e := (0, 1, 0, 0, 0, .int 1, [])) rfl rfl ?_
  refine zT_stp (pc := 4) (e := (7, 1, 0, 3, 0, .null, [])) rfl rfl ?_
  refine zT_stp (pc := 5) (e := (0, 1, 0, 0, 0, .int 1, [])) rfl rfl ?_
  by_cases hq : zbin 3 (zbin 7 x k) 1 = 1
  · refine zT_stp (pc := 6) (e := (16, 3, 13, 1, 0, .null, [])) (y := (9, [some (.int x), some (.int k)], [], h)) rfl ?_ ?_
    · show some (Sum.inl (zicmp 1 (zbin 3 (zbin 7 x k) 1) 1 13 9, _, _, _)) = _
      rw [show zicmp 1 (zbin 3 (zbin 7 x k) 1) 1 13 9 = 9 from if_pos hq]
    refine zT_stp (pc := 9) (e := (0, 1, 0, 0, 0, .int 1, [])) rfl rfl ?_
    refine zT_stp (pc := 10) (e := (17, 3, 14, 0, 0, .null, [])) rfl rfl ?_
    refine zT_rtn (pc := 14) (e := (35, 1, 0, 0, 1, .null, [])) rfl rfl ?_
    exact ⟨rfl, Or.inl ⟨hq, rfl⟩⟩
  · refine zT_stp (pc := 6) (e := (16, 3, 13, 1, 0, .null, [])) (y := (13, [some (.int x), some (.int k)], [], h)) rfl ?_ ?_
    · show some (Sum.inl (zicmp 1 (zbin 3 (zbin 7 x k) 1) 1 13 9, _, _, _)) = _
      rw [show zicmp 1 (zbin 3 (zbin 7 x k) 1) 1 13 9 = 13 from if_neg hq]
    refine zT_stp (pc := 13) (e := (0, 1, 0, 0, 0, .int 0, [])) rfl rfl ?_
    refine zT_rtn (pc := 14) (e := (35, 1, 0, 0, 1, .null, [])) rfl rfl ?_
    exact ⟨rfl, Or.inr ⟨hq, rfl⟩⟩
end HU
theorem hbit1 : (List.range 256).all (fun x => (List.range 8).all (fun b => decide (zbin 3 (zbin 7 (Int32.ofNat x) (Int32.ofNat b)) 1 = 1) || (ile (Int.ofNat (x + 1)) (zbin 4 (Int32.ofNat x) (zbin 6 1 (Int32.ofNat b))).toInt && ile (zbin 4 (Int32.ofNat x) (zbin 6 1 (Int32.ofNat b))).toInt (Int.ofNat 255)))) = true := by decide +kernel
theorem hofn {x : Int32} (h0 : 0 ≤ x.toInt) (h1 : x.toInt ≤ 3072) : Int32.ofNat x.toInt.toNat = x := by
  rw [← Int32.toInt_inj, na_ofn (by omega)]
  omega
theorem hbit {x b : Int32} (x0 : 0 ≤ x.toInt) (x1 : x.toInt ≤ 255) (b0 : 0 ≤ b.toInt) (b1 : b.toInt ≤ 7) (hn : zbin 3 (zbin 7 x b) 1 ≠ 1) : x.toInt + 1 ≤ (zbin 4 x (zbin 6 1 b)).toInt ∧ (zbin 4 x (zbin 6 1 b)).toInt ≤ 255 := by
  have h := List.all_eq_true.mp (List.all_eq_true.mp hbit1 x.toInt.toNat (List.mem_range.mpr (by omega))) b.toInt.toNat (List.mem_range.mpr (by omega))
  rw [hofn x0 (by omega), hofn b0 (by omega), Bool.or_eq_true, decide_eq_true_eq, Bool.and_eq_true, ile_eq, ile_eq] at h
  rcases h with h | h
  · exact absurd h hn
  · simp only [Int.ofNat_eq_natCast] at h
    omega
/-- how much was asked, all together -/
def hUf (f : Nat → Nat → Int32) : Int := (f 117 0).toInt + ((f 117 1).toInt + ((f 117 2).toInt + ((f 117 3).toInt + ((f 117 4).toInt + (f 117 5).toInt))))
theorem hUf_up {f : Nat → Nat → Int32} {v : Int32} : ∀ {k : Nat}, k < 6 → hUf (zup f 117 k v) = hUf f + (v.toInt - (f 117 k).toInt)
  | 0, _ => by
    unfold hUf
    rw [zsame_up, zne_up (show ¬ (117 = 117 ∧ 1 = 0) by omega), zne_up (show ¬ (117 = 117 ∧ 2 = 0) by omega), zne_up (show ¬ (117 = 117 ∧ 3 = 0) by omega), zne_up (show ¬ (117 = 117 ∧ 4 = 0) by omega), zne_up (show ¬ (117 = 117 ∧ 5 = 0) by omega)]
    omega
  | 1, _ => by
    unfold hUf
    rw [zne_up (show ¬ (117 = 117 ∧ 0 = 1) by omega), zsame_up, zne_up (show ¬ (117 = 117 ∧ 2 = 1) by omega), zne_up (show ¬ (117 = 117 ∧ 3 = 1) by omega), zne_up (show ¬ (117 = 117 ∧ 4 = 1) by omega), zne_up (show ¬ (117 = 117 ∧ 5 = 1) by omega)]
    omega
  | 2, _ => by
    unfold hUf
    rw [zne_up (show ¬ (117 = 117 ∧ 0 = 2) by omega), zne_up (show ¬ (117 = 117 ∧ 1 = 2) by omega), zsame_up, zne_up (show ¬ (117 = 117 ∧ 3 = 2) by omega), zne_up (show ¬ (117 = 117 ∧ 4 = 2) by omega), zne_up (show ¬ (117 = 117 ∧ 5 = 2) by omega)]
    omega
  | 3, _ => by
    unfold hUf
    rw [zne_up (show ¬ (117 = 117 ∧ 0 = 3) by omega), zne_up (show ¬ (117 = 117 ∧ 1 = 3) by omega), zne_up (show ¬ (117 = 117 ∧ 2 = 3) by omega), zsame_up, zne_up (show ¬ (117 = 117 ∧ 4 = 3) by omega), zne_up (show ¬ (117 = 117 ∧ 5 = 3) by omega)]
    omega
  | 4, _ => by
    unfold hUf
    rw [zne_up (show ¬ (117 = 117 ∧ 0 = 4) by omega), zne_up (show ¬ (117 = 117 ∧ 1 = 4) by omega), zne_up (show ¬ (117 = 117 ∧ 2 = 4) by omega), zne_up (show ¬ (117 = 117 ∧ 3 = 4) by omega), zsame_up, zne_up (show ¬ (117 = 117 ∧ 5 = 4) by omega)]
    omega
  | 5, _ => by
    unfold hUf
    rw [zne_up (show ¬ (117 = 117 ∧ 0 = 5) by omega), zne_up (show ¬ (117 = 117 ∧ 1 = 5) by omega), zne_up (show ¬ (117 = 117 ∧ 2 = 5) by omega), zne_up (show ¬ (117 = 117 ∧ 3 = 5) by omega), zne_up (show ¬ (117 = 117 ∧ 4 = 5) by omega), zsame_up]
    omega
  | n + 6, h => by omega
theorem hUf_ne {f : Nat → Nat → Int32} {o k : Nat} {v : Int32} (ho : o ≠ 117) : hUf (zup f o k v) = hUf f := by
  unfold hUf
  rw [zne_up (fun q => ho q.1.symm), zne_up (fun q => ho q.1.symm), zne_up (fun q => ho q.1.symm), zne_up (fun q => ho q.1.symm), zne_up (fun q => ho q.1.symm), zne_up (fun q => ho q.1.symm)]
theorem hUf_le {f : Nat → Nat → Int32} (hb : hBd f) : hUf f ≤ 1530 := by
  have c : ∀ k, aiv kB 117 k = (0, 255) := fun _ => rfl
  have b0 := hb 117 0
  have b1 := hb 117 1
  have b2 := hb 117 2
  have b3 := hb 117 3
  have b4 := hb 117 4
  have b5 := hb 117 5
  rw [c] at b0 b1 b2 b3 b4 b5
  dsimp only at b0 b1 b2 b3 b4 b5
  unfold hUf
  omega
