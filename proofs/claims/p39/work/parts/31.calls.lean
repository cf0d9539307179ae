/-! STEPS BY BOUNDS: calls, Math, copies of rows. -/
def acat : List aV → Nat
  | [] => 0
  | v :: r => (bif aisL v then 2 else 1) + acat r
theorem acat_ok {E : List Int} : ∀ {st : List Value} {as : List aV}, aSt E st as → zcat st = acat as
  | [], [], _ => rfl
  | [], _ :: _, h => h.elim
  | _ :: _, [], h => h.elim
  | v :: r, a :: s, h => by
    unfold zcat acat
    rw [aisL_ok h.1, acat_ok h.2]
def atake : Nat → List aV → List aV → Option (List aV × List aV)
  | 0, acc, st => some (acc, st)
  | n + 1, acc, v :: st => atake n (v :: acc) st
  | _ + 1, _, [] => none
theorem atake_ok {E : List Int} : ∀ {n : Nat} {acc st : List Value} {aacc as xs r : List aV}, aSt E acc aacc → aSt E st as → atake n aacc as = some (xs, r) → ∃ us sr, ztake n acc st = some (us, sr) ∧ aSt E us xs ∧ aSt E sr r
  | 0, acc, st, aacc, as, xs, r, h1, h2, h => by
    cases h
    exact ⟨acc, st, rfl, h1, h2⟩
  | n + 1, acc, [], aacc, [], xs, r, h1, h2, h => by cases h
  | n + 1, acc, [], aacc, a :: as, xs, r, h1, h2, h => h2.elim
  | n + 1, acc, v :: st, aacc, [], xs, r, h1, h2, h => h2.elim
  | n + 1, acc, v :: st, aacc, a :: as, xs, r, h1, h2, h => atake_ok (n := n) (acc := v :: acc) (aacc := a :: aacc) ⟨h2.1, h1⟩ h2.2 h
def aq32 (S : Nat → Option (Nat × Nat)) (len a b c ci : Nat) : aX → Option aR := fun (cs, T, pc, al, st) => match atake b [] st with
  | some (as, r) => bif Nat.ble (acat r) 8 then (match c with
    | 1 => some (.inr (.inl (a, as, (cs, T, pc + len, al, r))))
    | _ => (match as with
      | .inr l :: _ => bif aall S l (fun _ t _ => Nat.beq t (10 + ci)) then some (.inr (.inl (a, as, (cs, T, pc + len, al, r)))) else none
      | _ => none)) else none
  | none => none
def aq31a (len : Nat) : aX → Option aR := fun (cs, T, pc, al, st) => match st with
  | .inl (.inl y) :: .inl (.inl x) :: r => bif Nat.ble (acat r) 8 then ago ((anew cs (max (abd cs x).1 (abd cs y).1, max (abd cs x).2 (abd cs y).2)).1, T, pc + len, al, .inl (.inl (anew cs (max (abd cs x).1 (abd cs y).1, max (abd cs x).2 (abd cs y).2)).2) :: r) else none
  | _ => none
def aq31b (len : Nat) : aX → Option aR := fun (cs, T, pc, al, st) => match st with
  | .inl (.inl y) :: .inl (.inl x) :: r => bif Nat.ble (acat r) 8 then ago ((anew cs (min (abd cs x).1 (abd cs y).1, min (abd cs x).2 (abd cs y).2)).1, T, pc + len, al, .inl (.inl (anew cs (min (abd cs x).1 (abd cs y).1, min (abd cs x).2 (abd cs y).2)).2) :: r) else none
  | _ => none
def aq31c (len : Nat) : aX → Option aR := fun (cs, T, pc, al, st) => match st with
  | .inl (.inl x) :: r => bif Nat.ble (acat r) 8 && decide (-2147483647 ≤ (abd cs x).1) then ago ((anew cs (0, max (-(abd cs x).1) (abd cs x).2)).1, T, pc + len, al, .inl (.inl (anew cs (0, max (-(abd cs x).1) (abd cs x).2)).2) :: r) else none
  | _ => none
def aq31 (len b : Nat) (X : aX) : Option aR := match b with
  | 0 => aq31a len X
  | 1 => aq31b len X
  | _ => aq31c len X
section AK2
variable {S : Nat → Option (Nat × Nat)} {rf : Nat → Nat → List Nat} {B : aB} {W : Nat → Nat → Bool} {WA : Nat → Bool} {E : List Int} {cs : aCs} {T : aT} {al : List (Option aV)} {as xs : List aV} {pc len a b k3 ci m : Nat} {v : Value} {lo : List (Option Value)} {st : List Value} {h : zH} {Ys : List aX} {Y : aX}
theorem at_32 (R : aRel S rf (aiv B) E (cs, T, pc, al, as) (pc, lo, st, h)) (h0 : aq32 S len a b k3 ci (cs, T, pc, al, as) = some (.inr (.inl (m, xs, Y)))) : ∃ us y, zs32 len a b k3 ci (pc, lo, st, h) = some (.inr (.inl (m, us, y))) ∧ aSt E us xs ∧ aRel S rf (aiv B) E Y y ∧ y.2.2.2 = h := by
  obtain ⟨hs, -, hl, hst, hh⟩ := R
  unfold aq32 at h0
  dsimp only at h0
  cases ht : atake b [] as with
  | none => rw [ht] at h0; cases h0
  | some p =>
    obtain ⟨as', r⟩ := p
    rw [ht] at h0
    dsimp only at h0
    obtain ⟨us, sr, e1, e2, e3⟩ := atake_ok (acc := []) (aacc := []) trivial hst ht
    have ec := acat_ok e3
    cases hb : Nat.ble (acat r) 8
    · rw [hb] at h0; cases h0
    · rw [hb] at h0
      dsimp only [cond_true] at h0
      have self : ∀ k, k ≠ 1 → (match as' with
        | .inr l :: _ => bif aall S l (fun _ t _ => Nat.beq t (10 + ci)) then some (.inr (.inl (a, as', (cs, T, pc + len, al, r)))) else none
        | _ => none) = (some (.inr (.inl (m, xs, Y))) : Option aR) → ∃ us y, (match us with
        | .ref o :: _ => match zget h.1 o with
          | some (t, _) => bif Nat.beq t (10 + ci) then some (.inr (.inl (a, us, (pc + len, lo, sr, h)))) else none
          | _ => none
        | _ => none) = (some (.inr (.inl (m, us, y))) : Option zO) ∧ ztake b [] st = some (us, sr) ∧ aSt E us xs ∧ aRel S rf (aiv B) E Y y ∧ y.2.2.2 = h := by
        intro k _ g
        split at g
        · rename_i l s
          obtain ⟨u, s', rfl, ⟨o, rfl, ho⟩, h3⟩ := aSt_cons e2
          cases hc : aall S l (fun _ t _ => Nat.beq t (10 + ci))
          · rw [hc] at g; cases g
          · rw [hc] at g
            cases g
            obtain ⟨t, n, hg, hf⟩ := aall_ok hh.1.1 hc ho
            refine ⟨_, (pc + len, lo, sr, h), ?_, e1, e2, ⟨hs, rfl, hl, e3, hh⟩, rfl⟩
            dsimp only
            rw [hg]
            dsimp only
            rw [hf]
            rfl
        · cases g
      match k3, h0 with
      | 1, h0 =>
        cases h0
        refine ⟨us, (pc + len, lo, sr, h), ?_, e2, ⟨hs, rfl, hl, e3, hh⟩, rfl⟩
        simp only [zs32]
        rw [e1]
        dsimp only
        rw [ec, hb]
        rfl
      | 0, h0 =>
        obtain ⟨us', y, f1, f2, f3, f4, f5⟩ := self 0 (by omega) h0
        refine ⟨us', y, ?_, f3, f4, f5⟩
        simp only [zs32]
        rw [f2]
        dsimp only
        rw [ec, hb]
        exact f1
      | k + 2, h0 =>
        obtain ⟨us', y, f1, f2, f3, f4, f5⟩ := self 0 (by omega) h0
        refine ⟨us', y, ?_, f3, f4, f5⟩
        simp only [zs32]
        rw [f2]
        dsimp only
        rw [ec, hb]
        exact f1
theorem at_31a (R : aRel S rf (aiv B) E (cs, T, pc, al, as) (pc, lo, st, h)) (h0 : aq31a len (cs, T, pc, al, as) = some (.inl Ys)) : ∃ y, zs31 len 0 (pc, lo, st, h) = some (.inl y) ∧ aGo S rf (aiv B) W E Ys (pc, lo, st, h) y := by
  obtain ⟨hs, -, hl, hst, hh⟩ := R
  unfold aq31a ago at h0
  dsimp only at h0
  split at h0
  · rename_i ay ax r
    obtain ⟨u, sr, rfl, ⟨y, rfl, hy⟩, h3⟩ := aSt_cons hst
    obtain ⟨u, sr, rfl, ⟨x, rfl, hx⟩, h5⟩ := aSt_cons h3
    have bx := abd_ok (cs := cs) hs hx
    have by' := abd_ok (cs := cs) hs hy
    cases hb : Nat.ble (acat r) 8
    · rw [hb] at h0; cases h0
    · rw [hb] at h0
      cases h0
      refine ⟨(pc + len, lo, .int (if x < y then y else x) :: sr, h), ?_, aGo_int (aGot_new hs ?_ ?_) hl h5 hh⟩
      · simp only [zs31]
        rw [acat_ok h5, hb]
        rfl
      · dsimp only
        split
        · rename_i q
          have q := Int32.lt_iff_toInt_lt.mp q
          omega
        · rename_i q
          have q : ¬ x.toInt < y.toInt := fun w => q (Int32.lt_iff_toInt_lt.mpr w)
          omega
      · dsimp only
        split
        · rename_i q
          have q := Int32.lt_iff_toInt_lt.mp q
          omega
        · rename_i q
          have q : ¬ x.toInt < y.toInt := fun w => q (Int32.lt_iff_toInt_lt.mpr w)
          omega
  · cases h0
theorem at_31b (R : aRel S rf (aiv B) E (cs, T, pc, al, as) (pc, lo, st, h)) (h0 : aq31b len (cs, T, pc, al, as) = some (.inl Ys)) : ∃ y, zs31 len 1 (pc, lo, st, h) = some (.inl y) ∧ aGo S rf (aiv B) W E Ys (pc, lo, st, h) y := by
  obtain ⟨hs, -, hl, hst, hh⟩ := R
  unfold aq31b ago at h0
  dsimp only at h0
  split at h0
  · rename_i ay ax r
    obtain ⟨u, sr, rfl, ⟨y, rfl, hy⟩, h3⟩ := aSt_cons hst
    obtain ⟨u, sr, rfl, ⟨x, rfl, hx⟩, h5⟩ := aSt_cons h3
    have bx := abd_ok (cs := cs) hs hx
    have by' := abd_ok (cs := cs) hs hy
    cases hb : Nat.ble (acat r) 8
    · rw [hb] at h0; cases h0
    · rw [hb] at h0
      cases h0
      refine ⟨(pc + len, lo, .int (if y < x then y else x) :: sr, h), ?_, aGo_int (aGot_new hs ?_ ?_) hl h5 hh⟩
      · simp only [zs31]
        rw [acat_ok h5, hb]
        rfl
      · dsimp only
        split
        · rename_i q
          have q := Int32.lt_iff_toInt_lt.mp q
          omega
        · rename_i q
          have q : ¬ y.toInt < x.toInt := fun w => q (Int32.lt_iff_toInt_lt.mpr w)
          omega
      · dsimp only
        split
        · rename_i q
          have q := Int32.lt_iff_toInt_lt.mp q
          omega
        · rename_i q
          have q : ¬ y.toInt < x.toInt := fun w => q (Int32.lt_iff_toInt_lt.mpr w)
          omega
  · cases h0
theorem at_31c (R : aRel S rf (aiv B) E (cs, T, pc, al, as) (pc, lo, st, h)) (h0 : aq31c len (cs, T, pc, al, as) = some (.inl Ys)) : ∃ y, zs31 len (b + 2) (pc, lo, st, h) = some (.inl y) ∧ aGo S rf (aiv B) W E Ys (pc, lo, st, h) y := by
  obtain ⟨hs, -, hl, hst, hh⟩ := R
  unfold aq31c ago at h0
  dsimp only at h0
  split at h0
  · rename_i ax r
    obtain ⟨u, sr, rfl, ⟨x, rfl, hx⟩, h3⟩ := aSt_cons hst
    have bx := abd_ok (cs := cs) hs hx
    generalize hb : (Nat.ble (acat r) 8 && decide (-2147483647 ≤ (abd cs ax).1)) = c at h0
    cases c with
    | false => cases h0
    | true =>
      cases h0
      rw [Bool.and_eq_true, decide_eq_true_eq] at hb
      have en := na_neg (x := x) (by omega)
      have ez : (0 : Int32).toInt = 0 := rfl
      refine ⟨(pc + len, lo, .int (if x < 0 then -x else x) :: sr, h), ?_, aGo_int (aGot_new hs ?_ ?_) hl h3 hh⟩
      · simp only [zs31]
        rw [acat_ok h3, hb.1]
        rfl
      · dsimp only
        split
        · rename_i q
          have q := Int32.lt_iff_toInt_lt.mp q
          omega
        · rename_i q
          have q : ¬ x.toInt < (0 : Int32).toInt := fun w => q (Int32.lt_iff_toInt_lt.mpr w)
          omega
      · dsimp only
        split
        · rename_i q
          have q := Int32.lt_iff_toInt_lt.mp q
          omega
        · rename_i q
          have q : ¬ x.toInt < (0 : Int32).toInt := fun w => q (Int32.lt_iff_toInt_lt.mpr w)
          omega
  · cases h0
theorem at_31 (R : aRel S rf (aiv B) E (cs, T, pc, al, as) (pc, lo, st, h)) (h0 : aq31 len b (cs, T, pc, al, as) = some (.inl Ys)) : ∃ y, zs31 len b (pc, lo, st, h) = some (.inl y) ∧ aGo S rf (aiv B) W E Ys (pc, lo, st, h) y := by
  match b, h0 with
  | 0, h0 => exact at_31a R h0
  | 1, h0 => exact at_31b R h0
  | k + 2, h0 => exact at_31c R h0
end AK2
