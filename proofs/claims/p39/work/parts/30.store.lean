/-! STEPS BY BOUNDS: writes of rows, lengths, the returns. -/
/-- a number fits all places that an index may mean -/
def afit (B : aB) (q p : Int × Int) (o : Nat) : Bool := bif aisA B o then decide ((aiv B o 0).1 ≤ p.1) && decide (p.2 ≤ (aiv B o 0).2) else (aixs q).all (fun k => decide ((aiv B o k).1 ≤ p.1) && decide (p.2 ≤ (aiv B o k).2))
theorem afit_ok {B : aB} {q p : Int × Int} {o k : Nat} (h : afit B q p o = true) (hk : k ∈ aixs q) : (aiv B o k).1 ≤ p.1 ∧ p.2 ≤ (aiv B o k).2 := by
  unfold afit at h
  cases hu : aisA B o
  · rw [hu] at h
    have h := List.all_eq_true.mp h k hk
    rw [Bool.and_eq_true, decide_eq_true_eq, decide_eq_true_eq] at h
    exact h
  · rw [hu] at h
    dsimp only [cond_true] at h
    rw [Bool.and_eq_true, decide_eq_true_eq, decide_eq_true_eq] at h
    rw [aisA_ok hu k 0]
    exact h
/-- what is listed of some places of some cells falls away -/
def adropR (l : List Nat) (q : Int × Int) : aT → aT
  | [] => []
  | (o, k', v) :: r => bif l.elem o && (decide (q.1 ≤ (k' : Int)) && decide ((k' : Int) ≤ q.2)) then adropR l q r else (o, k', v) :: adropR l q r
theorem adropR_ok {l : List Nat} {q : Int × Int} : ∀ {T : aT} {o k' : Nat} {a : aI}, afind (adropR l q T) o k' = some a → afind T o k' = some a ∧ ¬ (o ∈ l ∧ q.1 ≤ (k' : Int) ∧ (k' : Int) ≤ q.2)
  | [], _, _, _, h => by cases h
  | (o1, k1, v1) :: r, o, k', a, h => by
    unfold adropR at h
    cases hb : (l.elem o1 && (decide (q.1 ≤ (k1 : Int)) && decide ((k1 : Int) ≤ q.2)))
    · rw [hb] at h
      dsimp only [cond_false] at h
      unfold afind at h ⊢
      cases hq : (Nat.beq o1 o && Nat.beq k1 k')
      · rw [hq] at h
        exact adropR_ok h
      · rw [hq] at h
        refine ⟨h, fun w => ?_⟩
        rw [Bool.and_eq_true] at hq
        have e1 := Nat.eq_of_beq_eq_true hq.1
        have e2 := Nat.eq_of_beq_eq_true hq.2
        subst e1
        subst e2
        rw [List.elem_iff.mpr w.1, decide_eq_true w.2.1, decide_eq_true w.2.2] at hb
        cases hb
    · rw [hb] at h
      dsimp only [cond_true] at h
      obtain ⟨g1, g2⟩ := adropR_ok h
      refine ⟨?_, g2⟩
      unfold afind
      cases hq : (Nat.beq o1 o && Nat.beq k1 k')
      · exact g1
      · rw [Bool.and_eq_true] at hq hb
        have e1 := Nat.eq_of_beq_eq_true hq.1
        have e2 := Nat.eq_of_beq_eq_true hq.2
        subst e1
        subst e2
        rw [Bool.and_eq_true, decide_eq_true_eq, decide_eq_true_eq] at hb
        exact absurd ⟨List.elem_iff.mp hb.1, hb.2.1, hb.2.2⟩ g2
def aq25 (S : Nat → Option (Nat × Nat)) (B : aB) (W : Nat → Nat → Bool) (WA : Nat → Bool) (len : Nat) : aX → Option aR := fun (cs, T, pc, al, st) => match st with
  | .inl (.inl x) :: .inl (.inl i) :: .inr l :: r => bif ain S cs i l (fun o t => Nat.beq t 0 && afit B (abd cs i) (abd cs x) o) then (match i, l with
    | .inr n, [o] => bif W o n.toNat then ago (cs, (o, n.toNat, x) :: T, pc + len, al, r) else none
    | _, _ => bif l.all WA then ago (cs, adropR l (abd cs i) T, pc + len, al, r) else none) else none
  | _ => none
def aq26 (S : Nat → Option (Nat × Nat)) (len : Nat) : aX → Option aR := fun (cs, T, pc, al, st) => match st with
  | .inl (.inr _) :: .inl (.inl i) :: .inr l :: r => bif ain S cs i l (fun _ t => Nat.beq t 1) then ago (cs, T, pc + len, al, r) else none
  | _ => none
def aq28 (S : Nat → Option (Nat × Nat)) (len : Nat) : aX → Option aR := fun (cs, T, pc, al, st) => match st with
  | .inr (o1 :: l) :: r => (match S o1 with
    | some (_, n) => bif aall S (o1 :: l) (fun _ t m => Nat.ble t 5 && Nat.beq m n) then ago (cs, T, pc + len, al, .inl (.inl (.inr (Int32.ofNat n).toInt)) :: r) else none
    | none => none)
  | _ => none
def aq35 (c : Nat) : aX → Option aR := fun (cs, _, _, _, st) => match st with
  | [.inl (.inl x)] => (match c with
    | 1 => bif decide (0 ≤ (abd cs x).1) && decide ((abd cs x).2 ≤ 1) then some (.inr (.inr (some (.inl (.inl x))))) else none
    | _ => some (.inr (.inr (some (.inl (.inl x))))))
  | _ => none
def aq36 : aX → Option aR := fun (_, _, _, _, st) => match st with
  | [.inl (.inr x)] => some (.inr (.inr (some (.inl (.inr x)))))
  | _ => none
def aq37 : aX → Option aR := fun (_, _, _, _, st) => match st with
  | [.inr l] => some (.inr (.inr (some (.inr l))))
  | _ => none
def aq38 : aX → Option aR := fun (_, _, _, _, st) => match st with
  | [] => some (.inr (.inr none))
  | _ => none
/-- what a return hands back -/
def aRet (E : List Int) : Option Value → Option aV → Prop
  | some v, some a => aVs E v a
  | none, none => True
  | _, _ => False
section AS2
variable {S : Nat → Option (Nat × Nat)} {rf : Nat → Nat → List Nat} {B : aB} {W : Nat → Nat → Bool} {WA : Nat → Bool} {E : List Int} {cs : aCs} {T : aT} {al : List (Option aV)} {as : List aV} {pc len a b k3 : Nat} {v : Value} {lo : List (Option Value)} {st : List Value} {h : zH} {Ys : List aX} {w : Option aV}
theorem at_25 (hW : ∀ o k, WA o = true → W o k = true) (R : aRel S rf (aiv B) E (cs, T, pc, al, as) (pc, lo, st, h)) (h0 : aq25 S B W WA len (cs, T, pc, al, as) = some (.inl Ys)) : ∃ y, zs25 len (pc, lo, st, h) = some (.inl y) ∧ aGo S rf (aiv B) W E Ys (pc, lo, st, h) y := by
  obtain ⟨hs, -, hl, hst, hh⟩ := R
  unfold aq25 ago at h0
  dsimp only at h0
  split at h0
  · rename_i ax i l r
    obtain ⟨u, sr, rfl, ⟨x, rfl, hx⟩, h3⟩ := aSt_cons hst
    obtain ⟨u, sr, rfl, ⟨j, rfl, hj⟩, h5⟩ := aSt_cons h3
    obtain ⟨u, sr, rfl, ⟨o, rfl, ho⟩, h6⟩ := aSt_cons h5
    have bx := abd_ok (cs := cs) hs hx
    cases hb : ain S cs i l (fun o t => Nat.beq t 0 && afit B (abd cs i) (abd cs ax) o)
    · rw [hb] at h0; cases h0
    · rw [hb] at h0
      dsimp only [cond_true] at h0
      obtain ⟨t, n, hg, hf, hz, hzj, p1, p2, p3⟩ := ain_ok hh.1.1 hb hs hj ho
      rw [Bool.and_eq_true] at hf
      obtain ⟨f1, f2⟩ := hf
      have f2 := afit_ok f2 (aixs_ok p2 p3 p1)
      have key : zs25 len (pc, lo, .int x :: .int j :: .ref o :: sr, h) = some (.inl (pc + len, lo, sr, (h.1, zup h.2.1 o (zix j) x, h.2.2.1, h.2.2.2))) := by
        simp only [zs25]
        rw [hg]
        dsimp only
        rw [f1, hz]
        rfl
      have b1 : (aiv B o (zix j)).1 ≤ x.toInt := by omega
      have b2 : x.toInt ≤ (aiv B o (zix j)).2 := by omega
      have frame : W o (zix j) = true → ∀ o' k', W o' k' = false → zup h.2.1 o (zix j) x o' k' = h.2.1 o' k' := by
        intro hw1 o' k' hw
        refine zne_up (fun q => ?_)
        rw [q.1, q.2, hw1] at hw
        cases hw
      refine ⟨_, key, ?_⟩
      split at h0
      · rename_i n' o1
        have e := List.mem_singleton.mp ho
        subst e
        have ej : zix j = n'.toNat := by
          have hj : j.toInt = n' := hj
          omega
        cases hw : W o n'.toNat
        · rw [hw] at h0; cases h0
        · rw [hw] at h0
          cases h0
          rw [← ej] at hw ⊢
          exact ⟨⟨[], _, List.mem_singleton.mpr rfl, by rw [List.append_nil]; exact ⟨hs, rfl, hl, h6, aHp_put hh hx b1 b2⟩⟩, frame hw⟩
      · cases hw : l.all WA
        · rw [hw] at h0; cases h0
        · rw [hw] at h0
          cases h0
          have hv : aHp S rf (aiv B) E (adropR l (abd cs i) T) (h.1, zup h.2.1 o (zix j) x, h.2.2.1, h.2.2.2) := aHp_wk hh (fun o' k' a' g => by
            obtain ⟨g1, g2⟩ := adropR_ok g
            exact ⟨g1, fun q => g2 ⟨by rw [q.1]; exact ho, by rw [q.2]; exact p2, by rw [q.2]; exact p3⟩⟩) b1 b2
          exact ⟨⟨[], _, List.mem_singleton.mpr rfl, by rw [List.append_nil]; exact ⟨hs, rfl, hl, h6, hv⟩⟩, frame (hW _ _ (List.all_eq_true.mp hw o ho))⟩
  · cases h0
theorem at_26 (R : aRel S rf (aiv B) E (cs, T, pc, al, as) (pc, lo, st, h)) (h0 : aq26 S len (cs, T, pc, al, as) = some (.inl Ys)) : ∃ y, zs26 len (pc, lo, st, h) = some (.inl y) ∧ aGo S rf (aiv B) W E Ys (pc, lo, st, h) y := by
  obtain ⟨hs, -, hl, hst, hh⟩ := R
  unfold aq26 ago at h0
  dsimp only at h0
  split at h0
  · rename_i ax i l r
    obtain ⟨u, sr, rfl, ⟨x, rfl, hx⟩, h3⟩ := aSt_cons hst
    obtain ⟨u, sr, rfl, ⟨j, rfl, hj⟩, h5⟩ := aSt_cons h3
    obtain ⟨u, sr, rfl, ⟨o, rfl, ho⟩, h6⟩ := aSt_cons h5
    cases hb : ain S cs i l (fun _ t => Nat.beq t 1)
    · rw [hb] at h0; cases h0
    · rw [hb] at h0
      cases h0
      obtain ⟨t, n, hg, hf, hz, hzj, -, -, -⟩ := ain_ok hh.1.1 hb hs hj ho
      have key : zs26 len (pc, lo, .long x :: .int j :: .ref o :: sr, h) = some (.inl (pc + len, lo, sr, (h.1, h.2.1, zup h.2.2.1 o (zix j) x, h.2.2.2))) := by
        simp only [zs26]
        rw [hg]
        dsimp only
        rw [hf, hz]
        rfl
      exact ⟨_, key, ⟨[], _, List.mem_singleton.mpr rfl, by rw [List.append_nil]; exact ⟨hs, rfl, hl, h6, hh⟩⟩, fun _ _ _ => rfl⟩
  · cases h0
theorem at_28 (R : aRel S rf (aiv B) E (cs, T, pc, al, as) (pc, lo, st, h)) (h0 : aq28 S len (cs, T, pc, al, as) = some (.inl Ys)) : ∃ y, zs28 len (pc, lo, st, h) = some (.inl y) ∧ aGo S rf (aiv B) W E Ys (pc, lo, st, h) y := by
  obtain ⟨hs, -, hl, hst, hh⟩ := R
  unfold aq28 ago at h0
  dsimp only at h0
  split at h0
  · rename_i o1 l r
    obtain ⟨u, sr, rfl, ⟨o, rfl, ho⟩, h3⟩ := aSt_cons hst
    split at h0
    · rename_i t1 n hn
      cases hb : aall S (o1 :: l) (fun _ t m => Nat.ble t 5 && Nat.beq m n)
      · rw [hb] at h0; cases h0
      · rw [hb] at h0
        cases h0
        obtain ⟨t, m, hg, hc⟩ := aall_ok hh.1.1 hb ho
        rw [Bool.and_eq_true] at hc
        have e := Nat.eq_of_beq_eq_true hc.2
        subst e
        have key : zs28 len (pc, lo, .ref o :: sr, h) = some (.inl (pc + len, lo, .int (Int32.ofNat m) :: sr, h)) := by
          simp only [zs28]
          rw [hg]
          dsimp only
          rw [hc.1]
          rfl
        exact ⟨_, key, aGo_one ⟨hs, rfl, hl, ⟨⟨_, rfl, rfl⟩, h3⟩, hh⟩⟩
    · cases h0
  · cases h0
theorem at_35 (R : aRel S rf (aiv B) E (cs, T, pc, al, as) (pc, lo, st, h)) (h0 : aq35 k3 (cs, T, pc, al, as) = some (.inr (.inr w))) : ∃ u, zs35 k3 (pc, lo, st, h) = some (.inr (.inr u)) ∧ aRet E u w := by
  obtain ⟨hs, -, hl, hst, hh⟩ := R
  unfold aq35 at h0
  dsimp only at h0
  split at h0
  · rename_i ax
    obtain ⟨u, sr, rfl, ⟨x, rfl, hx⟩, h3⟩ := aSt_cons hst
    have bx := abd_ok (cs := cs) hs hx
    cases sr with
    | cons _ _ => exact h3.elim
    | nil =>
      match k3, h0 with
      | 0, h0 =>
        cases h0
        exact ⟨_, rfl, x, rfl, hx⟩
      | 1, h0 =>
        generalize hc : (decide (0 ≤ (abd cs ax).1) && decide ((abd cs ax).2 ≤ 1)) = c at h0
        cases c with
        | false => cases h0
        | true =>
          cases h0
          rw [Bool.and_eq_true, decide_eq_true_eq, decide_eq_true_eq] at hc
          have hx1 : x = 0 ∨ x = 1 := by
            rcases (show x.toInt = 0 ∨ x.toInt = 1 by omega) with q | q
            · exact Or.inl (Int32.toInt_inj.mp q)
            · exact Or.inr (Int32.toInt_inj.mp q)
          refine ⟨some (.int x), ?_, x, rfl, hx⟩
          show (if x = 0 ∨ x = 1 then _ else none) = _
          rw [if_pos hx1]
      | k + 2, h0 =>
        cases h0
        exact ⟨_, rfl, x, rfl, hx⟩
  · cases h0
theorem at_36 (R : aRel S rf (aiv B) E (cs, T, pc, al, as) (pc, lo, st, h)) (h0 : aq36 (cs, T, pc, al, as) = some (.inr (.inr w))) : ∃ u, zs36 (pc, lo, st, h) = some (.inr (.inr u)) ∧ aRet E u w := by
  obtain ⟨hs, -, hl, hst, hh⟩ := R
  unfold aq36 at h0
  dsimp only at h0
  split at h0
  · cases h0
    obtain ⟨u, sr, rfl, ⟨x, rfl, hx⟩, h3⟩ := aSt_cons hst
    cases sr with
    | cons _ _ => exact h3.elim
    | nil => exact ⟨_, rfl, x, rfl, hx⟩
  · cases h0
theorem at_37 (R : aRel S rf (aiv B) E (cs, T, pc, al, as) (pc, lo, st, h)) (h0 : aq37 (cs, T, pc, al, as) = some (.inr (.inr w))) : ∃ u, zs37 (pc, lo, st, h) = some (.inr (.inr u)) ∧ aRet E u w := by
  obtain ⟨hs, -, hl, hst, hh⟩ := R
  unfold aq37 at h0
  dsimp only at h0
  split at h0
  · cases h0
    obtain ⟨u, sr, rfl, ⟨x, rfl, hx⟩, h3⟩ := aSt_cons hst
    cases sr with
    | cons _ _ => exact h3.elim
    | nil => exact ⟨_, rfl, x, rfl, hx⟩
  · cases h0
theorem at_38 (R : aRel S rf (aiv B) E (cs, T, pc, al, as) (pc, lo, st, h)) (h0 : aq38 (cs, T, pc, al, as) = some (.inr (.inr w))) : ∃ u, zs38 (pc, lo, st, h) = some (.inr (.inr u)) ∧ aRet E u w := by
  obtain ⟨hs, -, hl, hst, hh⟩ := R
  unfold aq38 at h0
  dsimp only at h0
  split at h0
  · cases h0
    cases st with
    | cons _ _ => exact hst.elim
    | nil => exact ⟨_, rfl, trivial⟩
  · cases h0
end AS2
