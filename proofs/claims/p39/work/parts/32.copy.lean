/-! STEPS BY BOUNDS: a row is copied into another. -/
def aq34i (S : Nat → Option (Nat × Nat)) (B : aB) (WA : Nat → Bool) (len : Nat) : aX → Option aR := fun (cs, T, pc, al, st) => match st with
  | .inl (.inl n) :: .inl (.inl dp) :: .inr l1 :: .inl (.inl sp) :: .inr l0 :: r => bif (Nat.ble (acat r) 8 && ((decide (0 ≤ (abd cs n).1) && decide ((abd cs n).2 < 100000)) && ((decide (0 ≤ (abd cs sp).1) && decide ((abd cs sp).2 < 100000)) && (decide (0 ≤ (abd cs dp).1) && decide ((abd cs dp).2 < 100000))))) && (aall S l0 (fun o t m => (Nat.beq t 0 && aisA B o) && decide ((abd cs sp).2 + (abd cs n).2 ≤ m)) && aall S l1 (fun o t m => ((Nat.beq t 0 && aisA B o) && decide ((abd cs dp).2 + (abd cs n).2 ≤ m)) && (WA o && l0.all (fun q => decide ((aiv B o 0).1 ≤ (aiv B q 0).1) && decide ((aiv B q 0).2 ≤ (aiv B o 0).2))))) then ago (cs, adropA l1 T, pc + len, al, r) else none
  | _ => none
def aq34l (S : Nat → Option (Nat × Nat)) (len : Nat) : aX → Option aR := fun (cs, T, pc, al, st) => match st with
  | .inl (.inl n) :: .inl (.inl dp) :: .inr l1 :: .inl (.inl sp) :: .inr l0 :: r => bif (Nat.ble (acat r) 8 && ((decide (0 ≤ (abd cs n).1) && decide ((abd cs n).2 < 100000)) && ((decide (0 ≤ (abd cs sp).1) && decide ((abd cs sp).2 < 100000)) && (decide (0 ≤ (abd cs dp).1) && decide ((abd cs dp).2 < 100000))))) && (aall S l0 (fun _ t m => Nat.beq t 1 && decide ((abd cs sp).2 + (abd cs n).2 ≤ m)) && aall S l1 (fun _ t m => Nat.beq t 1 && decide ((abd cs dp).2 + (abd cs n).2 ≤ m))) then ago (cs, T, pc + len, al, r) else none
  | _ => none
theorem zrk_eq {α : Type} {f : Nat → Nat → α} {o : Nat} {r : Nat → α} {k : Nat} : zrow f o r o k = r k := by
  unfold zrow
  rw [Nat.beq_refl]
  rfl
theorem zrk_ne {α : Type} {f : Nat → Nat → α} {o o' : Nat} {r : Nat → α} {k : Nat} (h : o' ≠ o) : zrow f o r o' k = f o' k := by
  unfold zrow
  cases hb : Nat.beq o' o
  · rfl
  · exact absurd (Nat.eq_of_beq_eq_true hb) h
theorem zcpy_or {α : Type} (f g : Nat → α) (sp dp n k : Nat) : (∃ j, zcpy f g sp dp n k = f j) ∨ zcpy f g sp dp n k = g k := by
  unfold zcpy
  cases Nat.ble dp k && Nat.blt k (dp + n)
  · exact Or.inr rfl
  · exact Or.inl ⟨_, rfl⟩
section AM2
variable {S : Nat → Option (Nat × Nat)} {rf : Nat → Nat → List Nat} {B : aB} {W : Nat → Nat → Bool} {WA : Nat → Bool} {E : List Int} {cs : aCs} {T : aT} {al : List (Option aV)} {as xs : List aV} {pc len a b k3 ci m : Nat} {v : Value} {lo : List (Option Value)} {st : List Value} {h : zH} {Ys : List aX} {Y : aX}
theorem at_34i (hW : ∀ o k, WA o = true → W o k = true) (R : aRel S rf (aiv B) E (cs, T, pc, al, as) (pc, lo, st, h)) (h0 : aq34i S B WA len (cs, T, pc, al, as) = some (.inl Ys)) : ∃ y, zs34 len (pc, lo, st, h) = some (.inl y) ∧ aGo S rf (aiv B) W E Ys (pc, lo, st, h) y := by
  obtain ⟨hs, -, hl, hst, hh⟩ := R
  unfold aq34i ago at h0
  dsimp only at h0
  split at h0
  · rename_i an adp l1 asp l0 r
    obtain ⟨u, sr, rfl, ⟨n, rfl, hn⟩, h3⟩ := aSt_cons hst
    obtain ⟨u, sr, rfl, ⟨dp, rfl, hdp⟩, h4⟩ := aSt_cons h3
    obtain ⟨u, sr, rfl, ⟨o1, rfl, ho1⟩, h5⟩ := aSt_cons h4
    obtain ⟨u, sr, rfl, ⟨sp, rfl, hsp⟩, h6⟩ := aSt_cons h5
    obtain ⟨u, sr, rfl, ⟨o0, rfl, ho0⟩, h7⟩ := aSt_cons h6
    generalize hcnd : ((Nat.ble (acat r) 8 && ((decide (0 ≤ (abd cs an).1) && decide ((abd cs an).2 < 100000)) && ((decide (0 ≤ (abd cs asp).1) && decide ((abd cs asp).2 < 100000)) && (decide (0 ≤ (abd cs adp).1) && decide ((abd cs adp).2 < 100000))))) && (aall S l0 (fun o t m => (Nat.beq t 0 && aisA B o) && decide ((abd cs asp).2 + (abd cs an).2 ≤ m)) && aall S l1 (fun o t m => ((Nat.beq t 0 && aisA B o) && decide ((abd cs adp).2 + (abd cs an).2 ≤ m)) && (WA o && l0.all (fun q => decide ((aiv B o 0).1 ≤ (aiv B q 0).1) && decide ((aiv B q 0).2 ≤ (aiv B o 0).2)))))) = cnd at h0
    cases cnd with
    | false => cases h0
    | true =>
      cases h0
      rw [Bool.and_eq_true] at hcnd
      obtain ⟨c1, c2⟩ := hcnd
      rw [Bool.and_eq_true] at c1 c2
      obtain ⟨c1, c3⟩ := c1
      simp only [Bool.and_eq_true, decide_eq_true_eq] at c3
      obtain ⟨t0, m0, g0, f0⟩ := aall_ok hh.1.1 c2.1 ho0
      obtain ⟨t1, m1, g1, f1⟩ := aall_ok hh.1.1 c2.2 ho1
      rw [Bool.and_eq_true, Bool.and_eq_true, decide_eq_true_eq] at f0
      rw [Bool.and_eq_true] at f1
      obtain ⟨f1, f2⟩ := f1
      rw [Bool.and_eq_true, Bool.and_eq_true, decide_eq_true_eq] at f1
      rw [Bool.and_eq_true] at f2
      have f3 := List.all_eq_true.mp f2.2 o0 ho0
      rw [Bool.and_eq_true, decide_eq_true_eq, decide_eq_true_eq] at f3
      have e0 := Nat.eq_of_beq_eq_true f0.1.1
      have e1 := Nat.eq_of_beq_eq_true f1.1.1
      subst e0
      subst e1
      have bn := abd_ok (cs := cs) hs hn
      have bs := abd_ok (cs := cs) hs hsp
      have bd := abd_ok (cs := cs) hs hdp
      have zn := azix (i := n) (by omega)
      have zs := azix (i := sp) (by omega)
      have zd := azix (i := dp) (by omega)
      have k1 : Nat.blt (zix n) 100000 = true := by rw [Nat.blt_eq]; omega
      have k2 : Nat.blt (zix sp) 100000 = true := by rw [Nat.blt_eq]; omega
      have k3 : Nat.blt (zix dp) 100000 = true := by rw [Nat.blt_eq]; omega
      have k4 : Nat.ble (zix sp + zix n) m0 = true := by rw [Nat.ble_eq]; omega
      have k5 : Nat.ble (zix dp + zix n) m1 = true := by rw [Nat.ble_eq]; omega
      have key : zs34 len (pc, lo, .int n :: .int dp :: .ref o1 :: .int sp :: .ref o0 :: sr, h) = some (.inl (pc + len, lo, sr, (h.1, zrow h.2.1 o1 (zcpy (h.2.1 o0) (h.2.1 o1) (zix sp) (zix dp) (zix n)), h.2.2.1, h.2.2.2))) := by
        simp only [zs34]
        rw [g0, g1]
        dsimp only
        rw [k1, k2, k3, k4, k5, acat_ok h7, c1]
        rfl
      refine ⟨_, key, ⟨[], _, List.mem_singleton.mpr rfl, ?_⟩, ?_⟩
      · rw [List.append_nil]
        refine ⟨hs, rfl, hl, h7, ⟨hh.1.1, hh.1.2.1, fun o' k' => ?_⟩, fun o' k' a' g => ?_⟩
        · dsimp only
          by_cases hq : o' = o1
          · subst hq
            rw [zrk_eq]
            rcases zcpy_or (h.2.1 o0) (h.2.1 o') (zix sp) (zix dp) (zix n) k' with ⟨j, e⟩ | e
            · rw [e, aisA_ok f1.1.2 k' 0]
              have w := hh.1.2.2 o0 j
              rw [aisA_ok f0.1.2 j 0] at w
              dsimp only at w
              omega
            · rw [e]
              exact hh.1.2.2 o' k'
          · rw [zrk_ne hq]
            exact hh.1.2.2 o' k'
        · obtain ⟨p1, p2⟩ := adropA_ok g
          dsimp only
          rw [zrk_ne (fun q => p2 (by rw [q]; exact ho1))]
          exact hh.2 o' k' a' p1
      · intro o' k' hw
        dsimp only
        refine zrk_ne (fun q => ?_)
        rw [q, hW o1 k' f2.1] at hw
        cases hw
  · cases h0
theorem at_34l (R : aRel S rf (aiv B) E (cs, T, pc, al, as) (pc, lo, st, h)) (h0 : aq34l S len (cs, T, pc, al, as) = some (.inl Ys)) : ∃ y, zs34 len (pc, lo, st, h) = some (.inl y) ∧ aGo S rf (aiv B) W E Ys (pc, lo, st, h) y := by
  obtain ⟨hs, -, hl, hst, hh⟩ := R
  unfold aq34l ago at h0
  dsimp only at h0
  split at h0
  · rename_i an adp l1 asp l0 r
    obtain ⟨u, sr, rfl, ⟨n, rfl, hn⟩, h3⟩ := aSt_cons hst
    obtain ⟨u, sr, rfl, ⟨dp, rfl, hdp⟩, h4⟩ := aSt_cons h3
    obtain ⟨u, sr, rfl, ⟨o1, rfl, ho1⟩, h5⟩ := aSt_cons h4
    obtain ⟨u, sr, rfl, ⟨sp, rfl, hsp⟩, h6⟩ := aSt_cons h5
    obtain ⟨u, sr, rfl, ⟨o0, rfl, ho0⟩, h7⟩ := aSt_cons h6
    generalize hcnd : ((Nat.ble (acat r) 8 && ((decide (0 ≤ (abd cs an).1) && decide ((abd cs an).2 < 100000)) && ((decide (0 ≤ (abd cs asp).1) && decide ((abd cs asp).2 < 100000)) && (decide (0 ≤ (abd cs adp).1) && decide ((abd cs adp).2 < 100000))))) && (aall S l0 (fun _ t m => Nat.beq t 1 && decide ((abd cs asp).2 + (abd cs an).2 ≤ m)) && aall S l1 (fun _ t m => Nat.beq t 1 && decide ((abd cs adp).2 + (abd cs an).2 ≤ m)))) = cnd at h0
    cases cnd with
    | false => cases h0
    | true =>
      cases h0
      rw [Bool.and_eq_true] at hcnd
      obtain ⟨c1, c2⟩ := hcnd
      rw [Bool.and_eq_true] at c1 c2
      obtain ⟨c1, c3⟩ := c1
      simp only [Bool.and_eq_true, decide_eq_true_eq] at c3
      obtain ⟨t0, m0, g0, f0⟩ := aall_ok hh.1.1 c2.1 ho0
      obtain ⟨t1, m1, g1, f1⟩ := aall_ok hh.1.1 c2.2 ho1
      rw [Bool.and_eq_true, decide_eq_true_eq] at f0 f1
      have e0 := Nat.eq_of_beq_eq_true f0.1
      have e1 := Nat.eq_of_beq_eq_true f1.1
      subst e0
      subst e1
      have bn := abd_ok (cs := cs) hs hn
      have bs := abd_ok (cs := cs) hs hsp
      have bd := abd_ok (cs := cs) hs hdp
      have zn := azix (i := n) (by omega)
      have zs := azix (i := sp) (by omega)
      have zd := azix (i := dp) (by omega)
      have k1 : Nat.blt (zix n) 100000 = true := by rw [Nat.blt_eq]; omega
      have k2 : Nat.blt (zix sp) 100000 = true := by rw [Nat.blt_eq]; omega
      have k3 : Nat.blt (zix dp) 100000 = true := by rw [Nat.blt_eq]; omega
      have k4 : Nat.ble (zix sp + zix n) m0 = true := by rw [Nat.ble_eq]; omega
      have k5 : Nat.ble (zix dp + zix n) m1 = true := by rw [Nat.ble_eq]; omega
      have key : zs34 len (pc, lo, .int n :: .int dp :: .ref o1 :: .int sp :: .ref o0 :: sr, h) = some (.inl (pc + len, lo, sr, (h.1, h.2.1, zrow h.2.2.1 o1 (zcpy (h.2.2.1 o0) (h.2.2.1 o1) (zix sp) (zix dp) (zix n)), h.2.2.2))) := by
        simp only [zs34]
        rw [g0, g1]
        dsimp only
        rw [k1, k2, k3, k4, k5, acat_ok h7, c1]
        rfl
      exact ⟨_, key, ⟨[], _, List.mem_singleton.mpr rfl, by rw [List.append_nil]; exact ⟨hs, rfl, hl, h7, hh⟩⟩, fun _ _ _ => rfl⟩
  · cases h0
def aq34 (S : Nat → Option (Nat × Nat)) (B : aB) (WA : Nat → Bool) (len : Nat) (X : aX) : Option aR := match aq34i S B WA len X with
  | some r => some r
  | none => aq34l S len X
theorem at_34 (hW : ∀ o k, WA o = true → W o k = true) (R : aRel S rf (aiv B) E (cs, T, pc, al, as) (pc, lo, st, h)) (h0 : aq34 S B WA len (cs, T, pc, al, as) = some (.inl Ys)) : ∃ y, zs34 len (pc, lo, st, h) = some (.inl y) ∧ aGo S rf (aiv B) W E Ys (pc, lo, st, h) y := by
  unfold aq34 at h0
  cases hq : aq34i S B WA len (cs, T, pc, al, as) with
  | none =>
    rw [hq] at h0
    exact at_34l R h0
  | some r =>
    rw [hq] at h0
    cases h0
    exact at_34i hW R hq
end AM2
