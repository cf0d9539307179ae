/-! STEPS BY BOUNDS: a reference is written; all together. -/
def aq21r (S : Nat → Option (Nat × Nat)) (rf : Nat → Nat → List Nat) (len a b c : Nat) : aX → Option aR := fun (cs, T, pc, al, st) => match st with
  | .inr m :: .inr l :: r => bif (aall S l (fun o t n => (Nat.beq t (10 + a) && Nat.blt b n) && m.all (fun q => (rf o b).elem q))) && Nat.beq c 1 then ago (cs, T, pc + len, al, r) else none
  | _ => none
theorem at_21r {S : Nat → Option (Nat × Nat)} {rf : Nat → Nat → List Nat} {B : aB} {W : Nat → Nat → Bool} {E : List Int} {cs : aCs} {T : aT} {al : List (Option aV)} {as : List aV} {pc len a b c : Nat} {lo : List (Option Value)} {st : List Value} {h : zH} {Ys : List aX} (R : aRel S rf (aiv B) E (cs, T, pc, al, as) (pc, lo, st, h)) (h0 : aq21r S rf len a b c (cs, T, pc, al, as) = some (.inl Ys)) : ∃ y, zs21 len a b c (pc, lo, st, h) = some (.inl y) ∧ aGo S rf (aiv B) W E Ys (pc, lo, st, h) y := by
  obtain ⟨hs, -, hl, hst, hh⟩ := R
  unfold aq21r ago at h0
  dsimp only at h0
  split at h0
  · rename_i m l r
    obtain ⟨u, sr, rfl, ⟨q, rfl, hq⟩, h3⟩ := aSt_cons hst
    obtain ⟨u, sr, rfl, ⟨o, rfl, ho⟩, h5⟩ := aSt_cons h3
    generalize hcnd : ((aall S l (fun o t n => (Nat.beq t (10 + a) && Nat.blt b n) && m.all (fun q => (rf o b).elem q))) && Nat.beq c 1) = cnd at h0
    cases cnd with
    | false => cases h0
    | true =>
      cases h0
      rw [Bool.and_eq_true] at hcnd
      obtain ⟨t, n, hg, hc⟩ := aall_ok hh.1.1 hcnd.1 ho
      have ec := Nat.eq_of_beq_eq_true hcnd.2
      subst ec
      rw [Bool.and_eq_true] at hc
      have hm := List.elem_iff.mp (List.all_eq_true.mp hc.2 q hq)
      have key : zs21 len a b 1 (pc, lo, .ref q :: .ref o :: sr, h) = some (.inl (pc + len, lo, sr, (h.1, h.2.1, h.2.2.1, zup h.2.2.2 o b (some q)))) := by
        simp only [zs21]
        rw [hg]
        dsimp only
        rw [hc.1]
        rfl
      refine ⟨_, key, ⟨[], _, List.mem_singleton.mpr rfl, ?_⟩, fun _ _ _ => rfl⟩
      rw [List.append_nil]
      refine ⟨hs, rfl, hl, h5, ⟨hh.1.1, fun o' k' hn => ?_, hh.1.2.2⟩, hh.2⟩
      by_cases hz : o' = o ∧ k' = b
      · obtain ⟨rfl, rfl⟩ := hz
        exact ⟨q, by dsimp only; rw [zsame_up], hm⟩
      · obtain ⟨q', g1, g2⟩ := hh.1.2.1 o' k' hn
        exact ⟨q', by dsimp only; rw [zne_up hz]; exact g1, g2⟩
  · cases h0
def aq21x (S : Nat → Option (Nat × Nat)) (rf : Nat → Nat → List Nat) (B : aB) (W : Nat → Nat → Bool) (len a b c : Nat) (X : aX) : Option aR := match aq21 S B W len a b c X with
  | some r => some r
  | none => aq21r S rf len a b c X
theorem at_21x {S : Nat → Option (Nat × Nat)} {rf : Nat → Nat → List Nat} {B : aB} {W : Nat → Nat → Bool} {E : List Int} {cs : aCs} {T : aT} {al : List (Option aV)} {as : List aV} {pc len a b c : Nat} {lo : List (Option Value)} {st : List Value} {h : zH} {Ys : List aX} (R : aRel S rf (aiv B) E (cs, T, pc, al, as) (pc, lo, st, h)) (h0 : aq21x S rf B W len a b c (cs, T, pc, al, as) = some (.inl Ys)) : ∃ y, zs21 len a b c (pc, lo, st, h) = some (.inl y) ∧ aGo S rf (aiv B) W E Ys (pc, lo, st, h) y := by
  unfold aq21x at h0
  cases hq : aq21 S B W len a b c (cs, T, pc, al, as) with
  | none =>
    rw [hq] at h0
    exact at_21r R h0
  | some r =>
    rw [hq] at h0
    cases h0
    exact at_21 R hq
def astepG (S : Nat → Option (Nat × Nat)) (rf : Nat → Nat → List Nat) (B : aB) (W : Nat → Nat → Bool) (WA : Nat → Bool) : zI → aX → Option aR := fun (op, len, a, b, c, v, sw) X => match op with
  | 0 => aq0 len v X
  | 1 => aq1 len a X
  | 2 => aq2 len a X
  | 3 => aq3 len a X
  | 4 => aq4 len a X
  | 5 => aq5 len a X
  | 6 => aq6 len a X
  | 7 => aq7 len b X
  | 8 => aq8 len b X
  | 9 => aq9 len b X
  | 10 => aq10 len X
  | 11 => aq11 len X
  | 12 => aq12 len X
  | 13 => aq13 len X
  | 14 => aq14 len X
  | 15 => aq15 len a b X
  | 16 => aq16 len a b X
  | 17 => aq17 a X
  | 18 => aq18 a sw X
  | 19 => aq19 len a v X
  | 20 => aq20 S rf B len a b c X
  | 21 => aq21x S rf B W len a b c X
  | 22 => aq22 S B len X
  | 23 => aq23 S len X
  | 24 => aq24 S rf len X
  | 25 => aq25 S B W WA len X
  | 26 => aq26 S len X
  | 28 => aq28 S len X
  | 31 => aq31 len b X
  | 34 => aq34 S B WA len X
  | 39 => aq39 len X
  | 40 => aq40 len X
  | 41 => aq41 len X
  | 42 => aq42 len X
  | 43 => aq43 len a X
  | 44 => aq44 len X
  | _ => none
def astepF (S : Nat → Option (Nat × Nat)) (rf : Nat → Nat → List Nat) (B : aB) (W : Nat → Nat → Bool) (WA : Nat → Bool) : zI → aX → Option aR := fun (op, len, a, b, c, v, sw) X => bif Nat.blt op 45 then (bif Nat.blt op 22 then (bif Nat.blt op 11 then (bif Nat.blt op 5 then (bif Nat.blt op 2 then (bif Nat.blt op 1 then aq0 len v X else aq1 len a X) else (bif Nat.blt op 3 then aq2 len a X else (bif Nat.blt op 4 then aq3 len a X else aq4 len a X))) else (bif Nat.blt op 8 then (bif Nat.blt op 6 then aq5 len a X else (bif Nat.blt op 7 then aq6 len a X else aq7 len b X)) else (bif Nat.blt op 9 then aq8 len b X else (bif Nat.blt op 10 then aq9 len b X else aq10 len X)))) else (bif Nat.blt op 16 then (bif Nat.blt op 13 then (bif Nat.blt op 12 then aq11 len X else aq12 len X) else (bif Nat.blt op 14 then aq13 len X else (bif Nat.blt op 15 then aq14 len X else aq15 len a b X))) else (bif Nat.blt op 19 then (bif Nat.blt op 17 then aq16 len a b X else (bif Nat.blt op 18 then aq17 a X else aq18 a sw X)) else (bif Nat.blt op 20 then aq19 len a v X else (bif Nat.blt op 21 then aq20 S rf B len a b c X else aq21x S rf B W len a b c X))))) else (bif Nat.blt op 33 then (bif Nat.blt op 27 then (bif Nat.blt op 24 then (bif Nat.blt op 23 then aq22 S B len X else aq23 S len X) else (bif Nat.blt op 25 then aq24 S rf len X else (bif Nat.blt op 26 then aq25 S B W WA len X else aq26 S len X))) else (bif Nat.blt op 30 then (bif Nat.blt op 28 then none else (bif Nat.blt op 29 then aq28 S len X else none)) else (bif Nat.blt op 31 then none else (bif Nat.blt op 32 then aq31 len b X else none)))) else (bif Nat.blt op 39 then (bif Nat.blt op 36 then (bif Nat.blt op 34 then none else (bif Nat.blt op 35 then aq34 S B WA len X else none)) else none) else (bif Nat.blt op 42 then (bif Nat.blt op 40 then aq39 len X else (bif Nat.blt op 41 then aq40 len X else aq41 len X)) else (bif Nat.blt op 43 then aq42 len X else (bif Nat.blt op 44 then aq43 len a X else aq44 len X)))))) else none
theorem astepF_eq {S : Nat → Option (Nat × Nat)} {rf : Nat → Nat → List Nat} {B : aB} {W : Nat → Nat → Bool} {WA : Nat → Bool} {e : zI} {X : aX} : astepF S rf B W WA e X = astepG S rf B W WA e X := by
  obtain ⟨op, len, a, b, c, v, sw⟩ := e
  match op with
  | 0 => rfl
  | 1 => rfl
  | 2 => rfl
  | 3 => rfl
  | 4 => rfl
  | 5 => rfl
  | 6 => rfl
  | 7 => rfl
  | 8 => rfl
  | 9 => rfl
  | 10 => rfl
  | 11 => rfl
  | 12 => rfl
  | 13 => rfl
  | 14 => rfl
  | 15 => rfl
  | 16 => rfl
  | 17 => rfl
  | 18 => rfl
  | 19 => rfl
  | 20 => rfl
  | 21 => rfl
  | 22 => rfl
  | 23 => rfl
  | 24 => rfl
  | 25 => rfl
  | 26 => rfl
  | 27 => rfl
  | 28 => rfl
  | 29 => rfl
  | 30 => rfl
  | 31 => rfl
  | 32 => rfl
  | 33 => rfl
  | 34 => rfl
  | 35 => rfl
  | 36 => rfl
  | 37 => rfl
  | 38 => rfl
  | 39 => rfl
  | 40 => rfl
  | 41 => rfl
  | 42 => rfl
  | 43 => rfl
  | 44 => rfl
  | n + 45 =>
    unfold astepF
    dsimp only
    rw [show Nat.blt (n + 45) 45 = false by
      cases h : Nat.blt (n + 45) 45
      · rfl
      · rw [Nat.blt_eq] at h
        omega]
    rfl
def astepR : zI → aX → Option aR := fun (op, _, _, _, c, _, _) X => bif Nat.blt op 35 then none else bif Nat.beq op 35 then aq35 c X else bif Nat.beq op 36 then aq36 X else bif Nat.beq op 37 then aq37 X else bif Nat.beq op 38 then aq38 X else none
def astepC (S : Nat → Option (Nat × Nat)) : zI → aX → Option aR := fun (op, len, a, b, c, _, _) X => bif Nat.beq op 32 then aq32 S len a b (c % 4) (c / 4) X else none
section AZ2
variable {S : Nat → Option (Nat × Nat)} {rf : Nat → Nat → List Nat} {B : aB} {W : Nat → Nat → Bool} {WA : Nat → Bool} {E : List Int} {cs : aCs} {T : aT} {al : List (Option aV)} {as xs : List aV} {pc op len a b c m : Nat} {v : Value} {sw : List (Int32 × Nat)} {lo : List (Option Value)} {st : List Value} {h : zH} {Ys : List aX} {Y : aX} {w : Option aV}
theorem astepG_ok (hW : ∀ o k, WA o = true → W o k = true) (R : aRel S rf (aiv B) E (cs, T, pc, al, as) (pc, lo, st, h)) (h0 : astepG S rf B W WA (op, len, a, b, c, v, sw) (cs, T, pc, al, as) = some (.inl Ys)) : ∃ y, zstep (op, len, a, b, c, v, sw) (pc, lo, st, h) = some (.inl y) ∧ aGo S rf (aiv B) W E Ys (pc, lo, st, h) y := by
  match op, h0 with
  | 0, h0 => exact at_0 R h0
  | 1, h0 => exact at_1 R h0
  | 2, h0 => exact at_2 R h0
  | 3, h0 => exact at_3 R h0
  | 4, h0 => exact at_4 R h0
  | 5, h0 => exact at_5 R h0
  | 6, h0 => exact at_6 R h0
  | 7, h0 => exact at_7 R h0
  | 8, h0 => exact at_8 R h0
  | 9, h0 => exact at_9 R h0
  | 10, h0 => exact at_10 R h0
  | 11, h0 => exact at_11 R h0
  | 12, h0 => exact at_12 R h0
  | 13, h0 => exact at_13 R h0
  | 14, h0 => exact at_14 R h0
  | 15, h0 => exact at_15 R h0
  | 16, h0 => exact at_16 R h0
  | 17, h0 => exact at_17 R h0
  | 18, h0 => exact at_18 R h0
  | 19, h0 => exact at_19 R h0
  | 20, h0 => exact at_20 R h0
  | 21, h0 => exact at_21x R h0
  | 22, h0 => exact at_22 R h0
  | 23, h0 => exact at_23 R h0
  | 24, h0 => exact at_24 R h0
  | 25, h0 => exact at_25 hW R h0
  | 26, h0 => exact at_26 R h0
  | 27, h0 => cases h0
  | 28, h0 => exact at_28 R h0
  | 29, h0 => cases h0
  | 30, h0 => cases h0
  | 31, h0 => exact at_31 R h0
  | 32, h0 => cases h0
  | 33, h0 => cases h0
  | 34, h0 => exact at_34 hW R h0
  | 35, h0 => cases h0
  | 36, h0 => cases h0
  | 37, h0 => cases h0
  | 38, h0 => cases h0
  | 39, h0 => exact at_39 R h0
  | 40, h0 => exact at_40 R h0
  | 41, h0 => exact at_41 R h0
  | 42, h0 => exact at_42 R h0
  | 43, h0 => exact at_43 R h0
  | 44, h0 => exact at_44 R h0
  | n + 45, h0 => cases h0
theorem astepR_ok (R : aRel S rf (aiv B) E (cs, T, pc, al, as) (pc, lo, st, h)) (h0 : astepR (op, len, a, b, c, v, sw) (cs, T, pc, al, as) = some (.inr (.inr w))) : ∃ u, zstep (op, len, a, b, c, v, sw) (pc, lo, st, h) = some (.inr (.inr u)) ∧ aRet E u w := by
  unfold astepR at h0
  dsimp only at h0
  cases c0 : Nat.blt op 35
  · rw [c0] at h0
    dsimp only [cond_false] at h0
    cases c1 : Nat.beq op 35
    · rw [c1] at h0
      dsimp only [cond_false] at h0
      cases c2 : Nat.beq op 36
      · rw [c2] at h0
        dsimp only [cond_false] at h0
        cases c3 : Nat.beq op 37
        · rw [c3] at h0
          dsimp only [cond_false] at h0
          cases c4 : Nat.beq op 38
          · rw [c4] at h0
            cases h0
          · rw [c4] at h0
            have e := Nat.eq_of_beq_eq_true c4
            subst e
            exact at_38 R h0
        · rw [c3] at h0
          have e := Nat.eq_of_beq_eq_true c3
          subst e
          exact at_37 R h0
      · rw [c2] at h0
        have e := Nat.eq_of_beq_eq_true c2
        subst e
        exact at_36 R h0
    · rw [c1] at h0
      have e := Nat.eq_of_beq_eq_true c1
      subst e
      exact at_35 R h0
  · rw [c0] at h0
    cases h0
theorem astepC_ok (R : aRel S rf (aiv B) E (cs, T, pc, al, as) (pc, lo, st, h)) (h0 : astepC S (op, len, a, b, c, v, sw) (cs, T, pc, al, as) = some (.inr (.inl (m, xs, Y)))) : ∃ us y, zstep (op, len, a, b, c, v, sw) (pc, lo, st, h) = some (.inr (.inl (m, us, y))) ∧ aSt E us xs ∧ aRel S rf (aiv B) E Y y ∧ y.2.2.2 = h := by
  unfold astepC at h0
  dsimp only at h0
  cases hb : Nat.beq op 32
  · rw [hb] at h0; cases h0
  · rw [hb] at h0
    have e := Nat.eq_of_beq_eq_true hb
    subst e
    exact at_32 R h0
end AZ2
