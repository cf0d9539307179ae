/-! STEPS BY BOUNDS: instructions that leave the cells alone. -/
abbrev aX : Type := aCs × aT × Nat × List (Option aV) × List aV
abbrev aR : Type := List aX ⊕ ((Nat × List aV × aX) ⊕ Option aV)
def aclr (al : List (Option aV)) (i : Nat) : List (Option aV) := match i with
  | 0 => al
  | j + 1 => (match zget al j with
    | some (some (.inl (.inr _))) => zput al j none
    | _ => al)
def ast1 (al : List (Option aV)) (i : Nat) (a : aV) : List (Option aV) := zput (aclr al i) i (some a)
def ast2 (al : List (Option aV)) (i : Nat) (a : aV) : List (Option aV) := zput (zput (aclr al i) i (some a)) (i + 1) none
section AL
variable {E : List Int} {lo : List (Option Value)} {al : List (Option aV)} {i : Nat} {v : Value} {a : aV}
theorem aLo_put (h : aLo E lo al) (hv : aVs E v a) : aLo E (zput lo i (some v)) (zput al i (some a)) := by
  refine ⟨by rw [zput_length, zput_length]; exact h.1, fun j b hb => ?_⟩
  by_cases hj : j = i
  · subst hj
    have hl := zget_lt hb
    rw [zput_length] at hl
    rw [zget_put_eq _ _ _ hl] at hb
    cases hb
    exact ⟨v, zget_put_eq _ _ _ (by rw [h.1]; exact hl), hv⟩
  · rw [zget_put_ne _ _ _ _ hj] at hb
    obtain ⟨w, h1, h2⟩ := h.2 j b hb
    exact ⟨w, by rw [zget_put_ne _ _ _ _ hj]; exact h1, h2⟩
theorem aLo_none (h : aLo E lo al) : aLo E (zput lo i none) (zput al i none) := by
  refine ⟨by rw [zput_length, zput_length]; exact h.1, fun j b hb => ?_⟩
  by_cases hj : j = i
  · subst hj
    have hl := zget_lt hb
    rw [zput_length] at hl
    rw [zget_put_eq _ _ _ hl] at hb
    cases hb
  · rw [zget_put_ne _ _ _ _ hj] at hb
    obtain ⟨w, h1, h2⟩ := h.2 j b hb
    exact ⟨w, by rw [zget_put_ne _ _ _ _ hj]; exact h1, h2⟩
theorem aVs_long (h : aVs E v a) : zlong v = true ↔ ∃ l, a = .inl (.inr l) := by
  match a, h with
  | .inl (.inl a), h =>
    obtain ⟨x, rfl, -⟩ := h
    exact ⟨fun q => (by cases q), fun ⟨l, q⟩ => (by cases q)⟩
  | .inl (.inr a), h =>
    obtain ⟨x, rfl, -⟩ := h
    exact ⟨fun _ => ⟨a, rfl⟩, fun _ => rfl⟩
  | .inr l, h =>
    obtain ⟨x, rfl, -⟩ := h
    exact ⟨fun q => (by cases q), fun ⟨l, q⟩ => (by cases q)⟩
theorem aLo_clr (h : aLo E lo al) : aLo E (zclr lo i) (aclr al i) := by
  cases i with
  | zero => exact h
  | succ j =>
    unfold zclr aclr
    dsimp only
    cases ha : zget al j with
    | none =>
      dsimp only
      have hn : zget lo j = none := by
        cases hz : zget lo j with
        | none => rfl
        | some w =>
          have := zget_lt hz
          rw [h.1] at this
          obtain ⟨u, hu⟩ := zget_of_lt this
          rw [hu] at ha
          cases ha
      rw [hn]
      exact h
    | some w =>
      match w, ha with
      | none, ha =>
        dsimp only
        split
        · rename_i w' hw
          cases zlong w'
          · exact h
          · refine ⟨by dsimp only [cond_true]; rw [zput_length]; exact h.1, fun k b hb => ?_⟩
            have hk : k ≠ j := fun q => by subst q; rw [ha] at hb; cases hb
            obtain ⟨u, h1, h2⟩ := h.2 k b hb
            exact ⟨u, by dsimp only [cond_true]; rw [zget_put_ne _ _ _ _ hk]; exact h1, h2⟩
        · exact h
      | some b, ha =>
        obtain ⟨u, h1, h2⟩ := h.2 j b ha
        rw [h1]
        dsimp only
        match b, ha, h2 with
        | .inl (.inr l), ha, h2 =>
          rw [(aVs_long h2).mpr ⟨l, rfl⟩]
          exact aLo_none h
        | .inl (.inl l), ha, h2 =>
          have e : zlong u = false := by
            cases hz : zlong u
            · rfl
            · obtain ⟨l', q⟩ := (aVs_long h2).mp hz
              cases q
          rw [e]
          exact h
        | .inr l, ha, h2 =>
          have e : zlong u = false := by
            cases hz : zlong u
            · rfl
            · obtain ⟨l', q⟩ := (aVs_long h2).mp hz
              cases q
          rw [e]
          exact h
theorem aLo_st1 (h : aLo E lo al) (hv : aVs E v a) : aLo E (zst1 lo i v) (ast1 al i a) := aLo_put (aLo_clr h) hv
theorem aLo_st2 (h : aLo E lo al) (hv : aVs E v a) : aLo E (zst2 lo i v) (ast2 al i a) := aLo_none (aLo_put (aLo_clr h) hv)
end AL
def aRel (S : Nat → Option (Nat × Nat)) (rf : Nat → Nat → List Nat) (iv : Nat → Nat → Int × Int) (E : List Int) (X : aX) (x : zC) : Prop := aSat E X.1 ∧ X.2.2.1 = x.1 ∧ aLo E x.2.1 X.2.2.2.1 ∧ aSt E x.2.2.1 X.2.2.2.2 ∧ aHp S rf iv E X.2.1 x.2.2.2
/-- on to one of some states; nothing but what W names is written -/
def aGo (S : Nat → Option (Nat × Nat)) (rf : Nat → Nat → List Nat) (iv : Nat → Nat → Int × Int) (W : Nat → Nat → Bool) (E : List Int) (Ys : List aX) (x y : zC) : Prop := (∃ q, ∃ Y ∈ Ys, aRel S rf iv (E ++ q) Y y) ∧ ∀ o k, W o k = false → y.2.2.2.2.1 o k = x.2.2.2.2.1 o k
def ago (X : aX) : Option aR := some (.inl [X])
def aq0 (len : Nat) (v : Value) : aX → Option aR := fun (cs, T, pc, al, st) => match v with
  | .int c => ago (cs, T, pc + len, al, .inl (.inl (.inr c.toInt)) :: st)
  | .long c => ago (cs, T, pc + len, al, .inl (.inr (.inr c.toInt)) :: st)
  | _ => none
def aq1 (len a : Nat) : aX → Option aR := fun (cs, T, pc, al, st) => match zget al a with
  | some (some (.inl (.inl i))) => ago (cs, T, pc + len, al, .inl (.inl i) :: st)
  | _ => none
def aq2 (len a : Nat) : aX → Option aR := fun (cs, T, pc, al, st) => match zget al a with
  | some (some (.inl (.inr i))) => ago (cs, T, pc + len, al, .inl (.inr i) :: st)
  | _ => none
def aq3 (len a : Nat) : aX → Option aR := fun (cs, T, pc, al, st) => match zget al a with
  | some (some (.inr l)) => ago (cs, T, pc + len, al, .inr l :: st)
  | _ => none
def aq4 (len a : Nat) : aX → Option aR := fun (cs, T, pc, al, st) => match st with
  | .inl (.inl i) :: r => ago (cs, T, pc + len, ast1 al a (.inl (.inl i)), r)
  | _ => none
def aq5 (len a : Nat) : aX → Option aR := fun (cs, T, pc, al, st) => match st with
  | .inl (.inr i) :: r => ago (cs, T, pc + len, ast2 al a (.inl (.inr i)), r)
  | _ => none
def aq6 (len a : Nat) : aX → Option aR := fun (cs, T, pc, al, st) => match st with
  | .inr l :: r => ago (cs, T, pc + len, ast1 al a (.inr l), r)
  | _ => none
def aq7 (len b : Nat) : aX → Option aR := fun (cs, T, pc, al, st) => match st with
  | .inl (.inl y) :: .inl (.inl x) :: r => ago ((abin cs b x y).1, T, pc + len, al, .inl (.inl (abin cs b x y).2) :: r)
  | _ => none
def aq8 (len b : Nat) : aX → Option aR := fun (cs, T, pc, al, st) => match st with
  | .inl (.inl y) :: .inl (.inl x) :: r => (match adiv cs b x y with
    | some q => ago (q.1, T, pc + len, al, .inl (.inl q.2) :: r)
    | none => none)
  | _ => none
def aq9 (len b : Nat) : aX → Option aR := fun (cs, T, pc, al, st) => match st with
  | .inl (.inl x) :: r => ago ((aun cs b x).1, T, pc + len, al, .inl (.inl (aun cs b x).2) :: r)
  | _ => none
def aq10 (len : Nat) : aX → Option aR := fun (cs, T, pc, al, st) => match st with
  | .inl (.inl x) :: r => ago (cs, T, pc + len, al, .inl (.inr x) :: r)
  | _ => none
section AQ
variable {S : Nat → Option (Nat × Nat)} {rf : Nat → Nat → List Nat} {iv : Nat → Nat → Int × Int} {W : Nat → Nat → Bool} {E : List Int} {cs : aCs} {T : aT} {al : List (Option aV)} {as : List aV} {pc len a b : Nat} {v : Value} {lo : List (Option Value)} {st : List Value} {h : zH} {Ys : List aX}
/-- one state, nothing written, no new entry -/
theorem aGo_one {Y : aX} {lo' : List (Option Value)} {st' : List Value} {pc' : Nat} (R : aRel S rf iv E Y (pc', lo', st', h)) : aGo S rf iv W E [Y] (pc, lo, st, h) (pc', lo', st', h) := ⟨⟨[], Y, List.mem_singleton.mpr rfl, by rw [List.append_nil]; exact R⟩, fun _ _ _ => rfl⟩
/-- an int comes onto the stack, its bounds perhaps a new entry -/
theorem aGo_int {r : aCs × aI} {z : Int32} {ar : List aV} {sr : List Value} {pc' : Nat} (hg : aGot E cs z.toInt r) (hl : aLo E lo al) (hst : aSt E sr ar) (hh : aHp S rf iv E T h) : aGo S rf iv W E [(r.1, T, pc', al, .inl (.inl r.2) :: ar)] (pc, lo, st, h) (pc', lo, .int z :: sr, h) := by
  obtain ⟨q, g1, g2⟩ := hg
  exact ⟨⟨q, _, List.mem_singleton.mpr rfl, g1, rfl, aLo_ext hl, ⟨⟨z, rfl, g2⟩, aSt_ext hst⟩, aHp_ext hh⟩, fun _ _ _ => rfl⟩
theorem at_0 (R : aRel S rf iv E (cs, T, pc, al, as) (pc, lo, st, h)) (h0 : aq0 len v (cs, T, pc, al, as) = some (.inl Ys)) : ∃ y, zs0 len v (pc, lo, st, h) = some (.inl y) ∧ aGo S rf iv W E Ys (pc, lo, st, h) y := by
  obtain ⟨hs, -, hl, hst, hh⟩ := R
  simp only [aq0, ago] at h0
  split at h0
  · cases h0
    exact ⟨_, rfl, aGo_one ⟨hs, rfl, hl, ⟨⟨_, rfl, rfl⟩, hst⟩, hh⟩⟩
  · cases h0
    exact ⟨_, rfl, aGo_one ⟨hs, rfl, hl, ⟨⟨_, rfl, rfl⟩, hst⟩, hh⟩⟩
  · cases h0
theorem at_1 (R : aRel S rf iv E (cs, T, pc, al, as) (pc, lo, st, h)) (h0 : aq1 len a (cs, T, pc, al, as) = some (.inl Ys)) : ∃ y, zs1 len a (pc, lo, st, h) = some (.inl y) ∧ aGo S rf iv W E Ys (pc, lo, st, h) y := by
  obtain ⟨hs, -, hl, hst, hh⟩ := R
  simp only [aq1, ago] at h0
  split at h0
  · rename_i i hg
    cases h0
    obtain ⟨u, h1, x, rfl, h2⟩ := hl.2 a _ hg
    refine ⟨(pc + len, lo, .int x :: st, h), ?_, aGo_one ⟨hs, rfl, hl, ⟨⟨x, rfl, h2⟩, hst⟩, hh⟩⟩
    simp only [zs1]
    rw [h1]
    rfl
  · cases h0
theorem at_2 (R : aRel S rf iv E (cs, T, pc, al, as) (pc, lo, st, h)) (h0 : aq2 len a (cs, T, pc, al, as) = some (.inl Ys)) : ∃ y, zs2 len a (pc, lo, st, h) = some (.inl y) ∧ aGo S rf iv W E Ys (pc, lo, st, h) y := by
  obtain ⟨hs, -, hl, hst, hh⟩ := R
  simp only [aq2, ago] at h0
  split at h0
  · rename_i i hg
    cases h0
    obtain ⟨u, h1, x, rfl, h2⟩ := hl.2 a _ hg
    refine ⟨(pc + len, lo, .long x :: st, h), ?_, aGo_one ⟨hs, rfl, hl, ⟨⟨x, rfl, h2⟩, hst⟩, hh⟩⟩
    simp only [zs2]
    rw [h1]
    rfl
  · cases h0
theorem at_3 (R : aRel S rf iv E (cs, T, pc, al, as) (pc, lo, st, h)) (h0 : aq3 len a (cs, T, pc, al, as) = some (.inl Ys)) : ∃ y, zs3 len a (pc, lo, st, h) = some (.inl y) ∧ aGo S rf iv W E Ys (pc, lo, st, h) y := by
  obtain ⟨hs, -, hl, hst, hh⟩ := R
  simp only [aq3, ago] at h0
  split at h0
  · rename_i i hg
    cases h0
    obtain ⟨u, h1, x, rfl, h2⟩ := hl.2 a _ hg
    refine ⟨(pc + len, lo, .ref x :: st, h), ?_, aGo_one ⟨hs, rfl, hl, ⟨⟨x, rfl, h2⟩, hst⟩, hh⟩⟩
    simp only [zs3]
    rw [h1]
    rfl
  · cases h0
theorem aSt_cons {a : aV} {ar : List aV} (hst : aSt E st (a :: ar)) : ∃ v sr, st = v :: sr ∧ aVs E v a ∧ aSt E sr ar := by
  match st, hst with
  | [], hst => exact hst.elim
  | v :: sr, hst => exact ⟨v, sr, rfl, hst.1, hst.2⟩
theorem at_4 (R : aRel S rf iv E (cs, T, pc, al, as) (pc, lo, st, h)) (h0 : aq4 len a (cs, T, pc, al, as) = some (.inl Ys)) : ∃ y, zs4 len a (pc, lo, st, h) = some (.inl y) ∧ aGo S rf iv W E Ys (pc, lo, st, h) y := by
  obtain ⟨hs, -, hl, hst, hh⟩ := R
  simp only [aq4, ago] at h0
  split at h0
  · cases h0
    obtain ⟨u, sr, rfl, ⟨x, rfl, h2⟩, h3⟩ := aSt_cons hst
    exact ⟨_, rfl, aGo_one ⟨hs, rfl, aLo_st1 hl ⟨x, rfl, h2⟩, h3, hh⟩⟩
  · cases h0
theorem at_5 (R : aRel S rf iv E (cs, T, pc, al, as) (pc, lo, st, h)) (h0 : aq5 len a (cs, T, pc, al, as) = some (.inl Ys)) : ∃ y, zs5 len a (pc, lo, st, h) = some (.inl y) ∧ aGo S rf iv W E Ys (pc, lo, st, h) y := by
  obtain ⟨hs, -, hl, hst, hh⟩ := R
  simp only [aq5, ago] at h0
  split at h0
  · cases h0
    obtain ⟨u, sr, rfl, ⟨x, rfl, h2⟩, h3⟩ := aSt_cons hst
    exact ⟨_, rfl, aGo_one ⟨hs, rfl, aLo_st2 hl ⟨x, rfl, h2⟩, h3, hh⟩⟩
  · cases h0
theorem at_6 (R : aRel S rf iv E (cs, T, pc, al, as) (pc, lo, st, h)) (h0 : aq6 len a (cs, T, pc, al, as) = some (.inl Ys)) : ∃ y, zs6 len a (pc, lo, st, h) = some (.inl y) ∧ aGo S rf iv W E Ys (pc, lo, st, h) y := by
  obtain ⟨hs, -, hl, hst, hh⟩ := R
  simp only [aq6, ago] at h0
  split at h0
  · cases h0
    obtain ⟨u, sr, rfl, ⟨x, rfl, h2⟩, h3⟩ := aSt_cons hst
    exact ⟨_, rfl, aGo_one ⟨hs, rfl, aLo_st1 hl ⟨x, rfl, h2⟩, h3, hh⟩⟩
  · cases h0
theorem at_7 (R : aRel S rf iv E (cs, T, pc, al, as) (pc, lo, st, h)) (h0 : aq7 len b (cs, T, pc, al, as) = some (.inl Ys)) : ∃ y, zs7 len b (pc, lo, st, h) = some (.inl y) ∧ aGo S rf iv W E Ys (pc, lo, st, h) y := by
  obtain ⟨hs, -, hl, hst, hh⟩ := R
  simp only [aq7, ago] at h0
  split at h0
  · cases h0
    obtain ⟨u, sr, rfl, ⟨y, rfl, h2⟩, h3⟩ := aSt_cons hst
    obtain ⟨u, sr, rfl, ⟨x, rfl, h4⟩, h5⟩ := aSt_cons h3
    exact ⟨_, rfl, aGo_int (abin_ok hs h4 h2) hl h5 hh⟩
  · cases h0
theorem at_8 (R : aRel S rf iv E (cs, T, pc, al, as) (pc, lo, st, h)) (h0 : aq8 len b (cs, T, pc, al, as) = some (.inl Ys)) : ∃ y, zs8 len b (pc, lo, st, h) = some (.inl y) ∧ aGo S rf iv W E Ys (pc, lo, st, h) y := by
  obtain ⟨hs, -, hl, hst, hh⟩ := R
  simp only [aq8, ago] at h0
  split at h0
  · split at h0
    · rename_i q hq
      cases h0
      obtain ⟨u, sr, rfl, ⟨y, rfl, h2⟩, h3⟩ := aSt_cons hst
      obtain ⟨u, sr, rfl, ⟨x, rfl, h4⟩, h5⟩ := aSt_cons h3
      obtain ⟨hy, hg⟩ := adiv_ok hs h4 h2 hq
      refine ⟨(pc + len, lo, .int (zdv b x y) :: sr, h), ?_, aGo_int hg hl h5 hh⟩
      show (if y = 0 then none else _) = _
      rw [if_neg hy]
      cases b <;> rfl
    · cases h0
  · cases h0
theorem at_9 (R : aRel S rf iv E (cs, T, pc, al, as) (pc, lo, st, h)) (h0 : aq9 len b (cs, T, pc, al, as) = some (.inl Ys)) : ∃ y, zs9 len b (pc, lo, st, h) = some (.inl y) ∧ aGo S rf iv W E Ys (pc, lo, st, h) y := by
  obtain ⟨hs, -, hl, hst, hh⟩ := R
  simp only [aq9, ago] at h0
  split at h0
  · cases h0
    obtain ⟨u, sr, rfl, ⟨x, rfl, h2⟩, h3⟩ := aSt_cons hst
    exact ⟨_, rfl, aGo_int (aun_ok hs h2) hl h3 hh⟩
  · cases h0
theorem at_10 (R : aRel S rf iv E (cs, T, pc, al, as) (pc, lo, st, h)) (h0 : aq10 len (cs, T, pc, al, as) = some (.inl Ys)) : ∃ y, zs10 len (pc, lo, st, h) = some (.inl y) ∧ aGo S rf iv W E Ys (pc, lo, st, h) y := by
  obtain ⟨hs, -, hl, hst, hh⟩ := R
  simp only [aq10, ago] at h0
  split at h0
  · cases h0
    obtain ⟨u, sr, rfl, ⟨x, rfl, h2⟩, h3⟩ := aSt_cons hst
    exact ⟨_, rfl, aGo_one ⟨hs, rfl, hl, ⟨⟨x.toInt64, rfl, by rw [Int32.toInt_toInt64]; exact h2⟩, h3⟩, hh⟩⟩
  · cases h0
end AQ
/-! STEPS BY BOUNDS: longs, comparisons, branches, switches, the stack. -/
def alfull : Int × Int := (-9223372036854775808, 9223372036854775807)
def aq11 (len : Nat) : aX → Option aR := fun (cs, T, pc, al, st) => match st with
  | .inl (.inr x) :: r => bif aok32 (abd cs x) then ago (cs, T, pc + len, al, .inl (.inl x) :: r) else ago ((anew cs afull).1, T, pc + len, al, .inl (.inl (anew cs afull).2) :: r)
  | _ => none
def aq12 (len : Nat) : aX → Option aR := fun (cs, T, pc, al, st) => match st with
  | .inl (.inr _) :: .inl (.inr _) :: r => ago ((anew cs alfull).1, T, pc + len, al, .inl (.inr (anew cs alfull).2) :: r)
  | _ => none
def aq13 (len : Nat) : aX → Option aR := fun (cs, T, pc, al, st) => match st with
  | .inl (.inl _) :: .inl (.inr _) :: r => ago ((anew cs alfull).1, T, pc + len, al, .inl (.inr (anew cs alfull).2) :: r)
  | _ => none
/-- a way that is open, or none -/
def aopt (f : aCs → aX) : Option aCs → List aX
  | some cs => [f cs]
  | none => []
def aq14 (len : Nat) : aX → Option aR := fun (cs, T, pc, al, st) => match st with
  | .inl (.inr y) :: .inl (.inr x) :: r => some (.inl (aopt (fun c => (c, T, pc + len, al, .inl (.inl (.inr (-1))) :: r)) (alt cs x y) ++ (aopt (fun c => (c, T, pc + len, al, .inl (.inl (.inr 0)) :: r)) (aeq cs x y) ++ aopt (fun c => (c, T, pc + len, al, .inl (.inl (.inr 1)) :: r)) (alt cs y x))))
  | _ => none
/-- what a condition leaves open: it holds, it doesn't -/
def acmp (cs : aCs) (b : Nat) (x y : aI) : Option aCs × Option aCs := match b with
  | 0 => (aeq cs x y, ane cs x y)
  | 1 => (ane cs x y, aeq cs x y)
  | 2 => (alt cs x y, ale cs y x)
  | 3 => (ale cs y x, alt cs x y)
  | 4 => (alt cs y x, ale cs x y)
  | _ => (ale cs x y, alt cs y x)
def aq15 (len a b : Nat) : aX → Option aR := fun (cs, T, pc, al, st) => match st with
  | .inl (.inl x) :: r => some (.inl (aopt (fun c => (c, T, a, al, r)) (acmp cs b x (.inr 0)).1 ++ aopt (fun c => (c, T, pc + len, al, r)) (acmp cs b x (.inr 0)).2))
  | _ => none
def aq16 (len a b : Nat) : aX → Option aR := fun (cs, T, pc, al, st) => match st with
  | .inl (.inl y) :: .inl (.inl x) :: r => some (.inl (aopt (fun c => (c, T, a, al, r)) (acmp cs b x y).1 ++ aopt (fun c => (c, T, pc + len, al, r)) (acmp cs b x y).2))
  | _ => none
def aq17 (a : Nat) : aX → Option aR := fun (cs, T, _, al, st) => ago (cs, T, a, al, st)
def aswk (cs : aCs) (T : aT) (al : List (Option aV)) (x : aI) (r : List aV) : List (Int32 × Nat) → List aX
  | [] => []
  | (k, t) :: s => aopt (fun c => (c, T, t, al, r)) (aeq cs x (.inr k.toInt)) ++ aswk cs T al x r s
/-- a known number that is told -/
def aswd (q : Int × Int) : List (Int32 × Nat) → Bool
  | [] => false
  | (k, _) :: s => (ieq q.1 k.toInt && ieq q.2 k.toInt) || aswd q s
def aq18 (a : Nat) (sw : List (Int32 × Nat)) : aX → Option aR := fun (cs, T, _, al, st) => match st with
  | .inl (.inl x) :: r => some (.inl (aswk cs T al x r sw ++ (bif aswd (abd cs x) sw then [] else [(cs, T, a, al, r)])))
  | _ => none
def aq19 (len a : Nat) (v : Value) : aX → Option aR := fun (cs, T, pc, al, st) => match zget al a, v with
  | some (some (.inl (.inl i))), .int k => ago ((abin cs 0 i (.inr k.toInt)).1, T, pc + len, ast1 al a (.inl (.inl (abin cs 0 i (.inr k.toInt)).2)), st)
  | _, _ => none
def aisL : aV → Bool
  | .inl (.inr _) => true
  | _ => false
def aq39 (len : Nat) : aX → Option aR := fun (cs, T, pc, al, st) => match st with
  | v :: r => bif aisL v then none else ago (cs, T, pc + len, al, v :: v :: r)
  | _ => none
def aq40 (len : Nat) : aX → Option aR := fun (cs, T, pc, al, st) => match st with
  | v :: w :: r => bif aisL v || aisL w then none else ago (cs, T, pc + len, al, v :: w :: v :: r)
  | _ => none
def aq41 (len : Nat) : aX → Option aR := fun (cs, T, pc, al, st) => match st with
  | v :: w :: r => bif aisL v || aisL w then none else ago (cs, T, pc + len, al, v :: w :: v :: w :: r)
  | _ => none
def aq42 (len : Nat) : aX → Option aR := fun (cs, T, pc, al, st) => match st with
  | v :: r => bif aisL v then none else ago (cs, T, pc + len, al, r)
  | _ => none
def aq44 (len : Nat) : aX → Option aR := fun (cs, T, pc, al, st) => match st with
  | v :: r => bif aisL v then ago (cs, T, pc + len, al, r) else none
  | _ => none
def aq43 (len a : Nat) : aX → Option aR := fun (cs, T, pc, al, st) => ago (cs, T, pc + len, al, .inr [a] :: st)
section AR
variable {S : Nat → Option (Nat × Nat)} {rf : Nat → Nat → List Nat} {iv : Nat → Nat → Int × Int} {W : Nat → Nat → Bool} {E : List Int} {cs : aCs} {T : aT} {al : List (Option aV)} {as : List aV} {pc len a b : Nat} {v : Value} {sw : List (Int32 × Nat)} {lo : List (Option Value)} {st : List Value} {h : zH} {Ys : List aX}
theorem aGo_long {r : aCs × aI} {z : Int64} {ar : List aV} {sr : List Value} {pc' : Nat} (hg : aGot E cs z.toInt r) (hl : aLo E lo al) (hst : aSt E sr ar) (hh : aHp S rf iv E T h) : aGo S rf iv W E [(r.1, T, pc', al, .inl (.inr r.2) :: ar)] (pc, lo, st, h) (pc', lo, .long z :: sr, h) := by
  obtain ⟨q, g1, g2⟩ := hg
  exact ⟨⟨q, _, List.mem_singleton.mpr rfl, g1, rfl, aLo_ext hl, ⟨⟨z, rfl, g2⟩, aSt_ext hst⟩, aHp_ext hh⟩, fun _ _ _ => rfl⟩
theorem aGot_fullL {x : Int64} (hs : aSat E cs) : aGot E cs x.toInt (anew cs alfull) := aGot_new hs (na_rngL x).1 (na_rngL x).2
/-- one of several ways -/
theorem aGo_in {Y : aX} {lo' : List (Option Value)} {st' : List Value} {pc' : Nat} (hY : Y ∈ Ys) (R : aRel S rf iv E Y (pc', lo', st', h)) : aGo S rf iv W E Ys (pc, lo, st, h) (pc', lo', st', h) := ⟨⟨[], Y, hY, by rw [List.append_nil]; exact R⟩, fun _ _ _ => rfl⟩
theorem aopt_in {f : aCs → aX} {o : Option aCs} {c : aCs} (h : o = some c) : f c ∈ aopt f o := by
  subst h
  exact List.mem_singleton.mpr rfl
theorem at_11 (R : aRel S rf iv E (cs, T, pc, al, as) (pc, lo, st, h)) (h0 : aq11 len (cs, T, pc, al, as) = some (.inl Ys)) : ∃ y, zs11 len (pc, lo, st, h) = some (.inl y) ∧ aGo S rf iv W E Ys (pc, lo, st, h) y := by
  obtain ⟨hs, -, hl, hst, hh⟩ := R
  simp only [aq11, ago] at h0
  split at h0
  · rename_i ax r
    obtain ⟨u, sr, rfl, ⟨x, rfl, h2⟩, h3⟩ := aSt_cons hst
    cases hb : aok32 (abd cs ax)
    · rw [hb] at h0
      cases h0
      exact ⟨_, rfl, aGo_int (aGot_full hs) hl h3 hh⟩
    · rw [hb] at h0
      cases h0
      have q1 := aok32_ok hb
      have q2 := abd_ok (cs := cs) hs h2
      have e : x.toInt32.toInt = x.toInt := by
        rw [Int64.toInt_toInt32, na_bmod (by omega) (by omega)]
      exact ⟨_, rfl, aGo_one ⟨hs, rfl, hl, ⟨⟨x.toInt32, rfl, by rw [e]; exact h2⟩, h3⟩, hh⟩⟩
  · cases h0
theorem at_12 (R : aRel S rf iv E (cs, T, pc, al, as) (pc, lo, st, h)) (h0 : aq12 len (cs, T, pc, al, as) = some (.inl Ys)) : ∃ y, zs12 len b (pc, lo, st, h) = some (.inl y) ∧ aGo S rf iv W E Ys (pc, lo, st, h) y := by
  obtain ⟨hs, -, hl, hst, hh⟩ := R
  simp only [aq12, ago] at h0
  split at h0
  · cases h0
    obtain ⟨u, sr, rfl, ⟨y, rfl, h2⟩, h3⟩ := aSt_cons hst
    obtain ⟨u, sr, rfl, ⟨x, rfl, h4⟩, h5⟩ := aSt_cons h3
    exact ⟨_, rfl, aGo_long (aGot_fullL hs) hl h5 hh⟩
  · cases h0
theorem at_13 (R : aRel S rf iv E (cs, T, pc, al, as) (pc, lo, st, h)) (h0 : aq13 len (cs, T, pc, al, as) = some (.inl Ys)) : ∃ y, zs13 len (pc, lo, st, h) = some (.inl y) ∧ aGo S rf iv W E Ys (pc, lo, st, h) y := by
  obtain ⟨hs, -, hl, hst, hh⟩ := R
  simp only [aq13, ago] at h0
  split at h0
  · cases h0
    obtain ⟨u, sr, rfl, ⟨y, rfl, h2⟩, h3⟩ := aSt_cons hst
    obtain ⟨u, sr, rfl, ⟨x, rfl, h4⟩, h5⟩ := aSt_cons h3
    exact ⟨_, rfl, aGo_long (aGot_fullL hs) hl h5 hh⟩
  · cases h0
theorem abig_in (x : Int64) : -abig ≤ x.toInt ∧ x.toInt ≤ abig := by
  have := na_rngL x
  unfold abig
  omega
theorem abig_in32 (x : Int32) : -abig ≤ x.toInt ∧ x.toInt ≤ abig := by
  have := na_rng x
  unfold abig
  omega
theorem at_14 (R : aRel S rf iv E (cs, T, pc, al, as) (pc, lo, st, h)) (h0 : aq14 len (cs, T, pc, al, as) = some (.inl Ys)) : ∃ y, zs14 len (pc, lo, st, h) = some (.inl y) ∧ aGo S rf iv W E Ys (pc, lo, st, h) y := by
  obtain ⟨hs, -, hl, hst, hh⟩ := R
  simp only [aq14] at h0
  split at h0
  · cases h0
    obtain ⟨u, sr, rfl, ⟨y, rfl, h2⟩, h3⟩ := aSt_cons hst
    obtain ⟨u, sr, rfl, ⟨x, rfl, h4⟩, h5⟩ := aSt_cons h3
    refine ⟨_, rfl, ?_⟩
    rcases Int.lt_trichotomy x.toInt y.toInt with q | q | q
    · obtain ⟨c, e1, e2⟩ := alt_ok hs h4 h2 ⟨(abig_in x).1, (abig_in y).2⟩ q
      have n1 : ¬ x > y := fun w => by have := Int64.lt_iff_toInt_lt.mp w; omega
      have n2 : ¬ x = y := fun w => by rw [w] at q; omega
      have e3 : lg_cmp x y = -1 := by unfold lg_cmp; rw [if_neg n1, if_neg n2]
      rw [e3]
      exact aGo_in (List.mem_append_left _ (aopt_in e1)) ⟨e2, rfl, hl, ⟨⟨-1, rfl, rfl⟩, h5⟩, hh⟩
    · obtain ⟨c, e1, e2⟩ := aeq_ok hs h4 h2 q
      have n2 : x = y := Int64.toInt_inj.mp q
      have n1 : ¬ x > y := fun w => by have := Int64.lt_iff_toInt_lt.mp w; omega
      have e3 : lg_cmp x y = 0 := by unfold lg_cmp; rw [if_neg n1, if_pos n2]
      rw [e3]
      exact aGo_in (List.mem_append_right _ (List.mem_append_left _ (aopt_in e1))) ⟨e2, rfl, hl, ⟨⟨0, rfl, rfl⟩, h5⟩, hh⟩
    · obtain ⟨c, e1, e2⟩ := alt_ok hs h2 h4 ⟨(abig_in y).1, (abig_in x).2⟩ q
      have e3 : lg_cmp x y = 1 := by unfold lg_cmp; rw [if_pos (Int64.lt_iff_toInt_lt.mpr q)]
      rw [e3]
      exact aGo_in (List.mem_append_right _ (List.mem_append_right _ (aopt_in e1))) ⟨e2, rfl, hl, ⟨⟨1, rfl, rfl⟩, h5⟩, hh⟩
  · cases h0
/-- a condition, and the way that it takes -/
theorem acmp_ok {ax ay : aI} {x y : Int32} {t n : Nat} (hs : aSat E cs) (hx : aIs E x.toInt ax) (hy : aIs E y.toInt ay) : (∃ c, (acmp cs b ax ay).1 = some c ∧ aSat E c ∧ zicmp b x y t n = t) ∨ ∃ c, (acmp cs b ax ay).2 = some c ∧ aSat E c ∧ zicmp b x y t n = n := by
  have bx := abig_in32 x
  have by' := abig_in32 y
  have ieq : x = y ↔ x.toInt = y.toInt := Int32.toInt_inj.symm
  match b with
  | 0 =>
    by_cases q : x = y
    · obtain ⟨c, e1, e2⟩ := aeq_ok hs hx hy (ieq.mp q)
      exact Or.inl ⟨c, e1, e2, if_pos q⟩
    · obtain ⟨c, e1, e2⟩ := ane_ok hs hx hy bx (fun w => q (ieq.mpr w))
      exact Or.inr ⟨c, e1, e2, if_neg q⟩
  | 1 =>
    by_cases q : x = y
    · obtain ⟨c, e1, e2⟩ := aeq_ok hs hx hy (ieq.mp q)
      exact Or.inr ⟨c, e1, e2, if_pos q⟩
    · obtain ⟨c, e1, e2⟩ := ane_ok hs hx hy bx (fun w => q (ieq.mpr w))
      exact Or.inl ⟨c, e1, e2, if_neg q⟩
  | 2 =>
    by_cases q : x < y
    · obtain ⟨c, e1, e2⟩ := alt_ok hs hx hy ⟨bx.1, by'.2⟩ (Int32.lt_iff_toInt_lt.mp q)
      exact Or.inl ⟨c, e1, e2, if_pos q⟩
    · obtain ⟨c, e1, e2⟩ := ale_ok hs hy hx ⟨by'.1, bx.2⟩ (Int32.le_iff_toInt_le.mp (Int32.not_lt.mp q))
      exact Or.inr ⟨c, e1, e2, if_neg q⟩
  | 3 =>
    by_cases q : x < y
    · obtain ⟨c, e1, e2⟩ := alt_ok hs hx hy ⟨bx.1, by'.2⟩ (Int32.lt_iff_toInt_lt.mp q)
      exact Or.inr ⟨c, e1, e2, if_pos q⟩
    · obtain ⟨c, e1, e2⟩ := ale_ok hs hy hx ⟨by'.1, bx.2⟩ (Int32.le_iff_toInt_le.mp (Int32.not_lt.mp q))
      exact Or.inl ⟨c, e1, e2, if_neg q⟩
  | 4 =>
    by_cases q : y < x
    · obtain ⟨c, e1, e2⟩ := alt_ok hs hy hx ⟨by'.1, bx.2⟩ (Int32.lt_iff_toInt_lt.mp q)
      exact Or.inl ⟨c, e1, e2, if_pos q⟩
    · obtain ⟨c, e1, e2⟩ := ale_ok hs hx hy ⟨bx.1, by'.2⟩ (Int32.le_iff_toInt_le.mp (Int32.not_lt.mp q))
      exact Or.inr ⟨c, e1, e2, if_neg q⟩
  | _ + 5 =>
    by_cases q : y < x
    · obtain ⟨c, e1, e2⟩ := alt_ok hs hy hx ⟨by'.1, bx.2⟩ (Int32.lt_iff_toInt_lt.mp q)
      exact Or.inr ⟨c, e1, e2, if_pos q⟩
    · obtain ⟨c, e1, e2⟩ := ale_ok hs hx hy ⟨bx.1, by'.2⟩ (Int32.le_iff_toInt_le.mp (Int32.not_lt.mp q))
      exact Or.inl ⟨c, e1, e2, if_neg q⟩
theorem at_15 (R : aRel S rf iv E (cs, T, pc, al, as) (pc, lo, st, h)) (h0 : aq15 len a b (cs, T, pc, al, as) = some (.inl Ys)) : ∃ y, zs15 len a b (pc, lo, st, h) = some (.inl y) ∧ aGo S rf iv W E Ys (pc, lo, st, h) y := by
  obtain ⟨hs, -, hl, hst, hh⟩ := R
  simp only [aq15] at h0
  split at h0
  · cases h0
    obtain ⟨u, sr, rfl, ⟨x, rfl, h2⟩, h3⟩ := aSt_cons hst
    refine ⟨_, rfl, ?_⟩
    rw [zif_icmp]
    rcases acmp_ok (b := b) (t := a) (n := pc + len) (y := 0) (ay := .inr 0) hs h2 rfl with ⟨c, e1, e2, e3⟩ | ⟨c, e1, e2, e3⟩
    · rw [e3]
      exact aGo_in (List.mem_append_left _ (aopt_in e1)) ⟨e2, rfl, hl, h3, hh⟩
    · rw [e3]
      exact aGo_in (List.mem_append_right _ (aopt_in e1)) ⟨e2, rfl, hl, h3, hh⟩
  · cases h0
theorem at_16 (R : aRel S rf iv E (cs, T, pc, al, as) (pc, lo, st, h)) (h0 : aq16 len a b (cs, T, pc, al, as) = some (.inl Ys)) : ∃ y, zs16 len a b (pc, lo, st, h) = some (.inl y) ∧ aGo S rf iv W E Ys (pc, lo, st, h) y := by
  obtain ⟨hs, -, hl, hst, hh⟩ := R
  simp only [aq16] at h0
  split at h0
  · cases h0
    obtain ⟨u, sr, rfl, ⟨y, rfl, h2⟩, h3⟩ := aSt_cons hst
    obtain ⟨u, sr, rfl, ⟨x, rfl, h4⟩, h5⟩ := aSt_cons h3
    refine ⟨_, rfl, ?_⟩
    rcases acmp_ok (b := b) (t := a) (n := pc + len) hs h4 h2 with ⟨c, e1, e2, e3⟩ | ⟨c, e1, e2, e3⟩
    · rw [e3]
      exact aGo_in (List.mem_append_left _ (aopt_in e1)) ⟨e2, rfl, hl, h5, hh⟩
    · rw [e3]
      exact aGo_in (List.mem_append_right _ (aopt_in e1)) ⟨e2, rfl, hl, h5, hh⟩
  · cases h0
theorem at_17 (R : aRel S rf iv E (cs, T, pc, al, as) (pc, lo, st, h)) (h0 : aq17 a (cs, T, pc, al, as) = some (.inl Ys)) : ∃ y, zs17 a (pc, lo, st, h) = some (.inl y) ∧ aGo S rf iv W E Ys (pc, lo, st, h) y := by
  obtain ⟨hs, -, hl, hst, hh⟩ := R
  cases h0
  exact ⟨_, rfl, aGo_one ⟨hs, rfl, hl, hst, hh⟩⟩
theorem aswk_ok {ax : aI} {x : Int32} {r : List aV} {sr : List Value} {d : Nat} (hs : aSat E cs) (hx : aIs E x.toInt ax) (hl : aLo E lo al) (hr : aSt E sr r) (hh : aHp S rf iv E T h) : ∀ {sw : List (Int32 × Nat)}, zsw x sw d = d ∨ ∃ Y ∈ aswk cs T al ax r sw, aRel S rf iv E Y (zsw x sw d, lo, sr, h)
  | [] => Or.inl rfl
  | (k, t) :: s => by
    unfold zsw aswk
    by_cases q : x = k
    · rw [if_pos q]
      obtain ⟨c, e1, e2⟩ := aeq_ok (ay := .inr k.toInt) hs hx rfl (by rw [q])
      exact Or.inr ⟨_, List.mem_append_left _ (aopt_in e1), e2, rfl, hl, hr, hh⟩
    · rw [if_neg q]
      rcases aswk_ok (d := d) hs hx hl hr hh (sw := s) with g | ⟨Y, g1, g2⟩
      · exact Or.inl g
      · exact Or.inr ⟨Y, List.mem_append_right _ g1, g2⟩
theorem aswd_ok {ax : aI} {x : Int32} {r : List aV} {sr : List Value} {d : Nat} (hs : aSat E cs) (hx : aIs E x.toInt ax) (hl : aLo E lo al) (hr : aSt E sr r) (hh : aHp S rf iv E T h) : ∀ {sw : List (Int32 × Nat)}, aswd (abd cs ax) sw = true → ∃ Y ∈ aswk cs T al ax r sw, aRel S rf iv E Y (zsw x sw d, lo, sr, h)
  | [], g => by cases g
  | (k, t) :: s, g => by
    unfold zsw aswk
    by_cases q : x = k
    · rw [if_pos q]
      obtain ⟨c, e1, e2⟩ := aeq_ok (ay := .inr k.toInt) hs hx rfl (by rw [q])
      exact ⟨_, List.mem_append_left _ (aopt_in e1), e2, rfl, hl, hr, hh⟩
    · rw [if_neg q]
      unfold aswd at g
      rw [Bool.or_eq_true, Bool.and_eq_true, ieq_eq, ieq_eq] at g
      rcases g with g | g
      · have b := abd_ok hs hx
        exact absurd (Int32.toInt_inj.mp (show x.toInt = k.toInt by omega)) q
      · obtain ⟨Y, g1, g2⟩ := aswd_ok (d := d) hs hx hl hr hh g
        exact ⟨Y, List.mem_append_right _ g1, g2⟩
theorem at_18 (R : aRel S rf iv E (cs, T, pc, al, as) (pc, lo, st, h)) (h0 : aq18 a sw (cs, T, pc, al, as) = some (.inl Ys)) : ∃ y, zs18 a sw (pc, lo, st, h) = some (.inl y) ∧ aGo S rf iv W E Ys (pc, lo, st, h) y := by
  obtain ⟨hs, -, hl, hst, hh⟩ := R
  simp only [aq18] at h0
  split at h0
  · cases h0
    obtain ⟨u, sr, rfl, ⟨x, rfl, h2⟩, h3⟩ := aSt_cons hst
    refine ⟨_, rfl, ?_⟩
    rename_i ax r
    cases hd : aswd (abd cs ax) sw
    · rcases aswk_ok (d := a) (sw := sw) hs h2 hl h3 hh with g | ⟨Y, g1, g2⟩
      · rw [g]
        exact aGo_in (List.mem_append_right _ (List.mem_singleton.mpr rfl)) ⟨hs, rfl, hl, h3, hh⟩
      · exact aGo_in (List.mem_append_left _ g1) g2
    · obtain ⟨Y, g1, g2⟩ := aswd_ok (d := a) hs h2 hl h3 hh hd
      exact aGo_in (List.mem_append_left _ g1) g2
  · cases h0
theorem at_19 (R : aRel S rf iv E (cs, T, pc, al, as) (pc, lo, st, h)) (h0 : aq19 len a v (cs, T, pc, al, as) = some (.inl Ys)) : ∃ y, zs19 len a v (pc, lo, st, h) = some (.inl y) ∧ aGo S rf iv W E Ys (pc, lo, st, h) y := by
  obtain ⟨hs, -, hl, hst, hh⟩ := R
  simp only [aq19, ago] at h0
  split at h0
  · rename_i i k hg
    cases h0
    obtain ⟨u, h1, x, rfl, h2⟩ := hl.2 a _ hg
    obtain ⟨q, g1, g2⟩ := abin_ok (b := 0) (y := k) (ay := .inr k.toInt) hs h2 rfl
    refine ⟨(pc + len, zst1 lo a (.int (x + k)), st, h), ?_, ⟨q, _, List.mem_singleton.mpr rfl, g1, rfl, aLo_st1 (aLo_ext hl) ⟨x + k, rfl, g2⟩, aSt_ext hst, aHp_ext hh⟩, fun _ _ _ => rfl⟩
    simp only [zs19]
    rw [h1]
    rfl
  · cases h0
theorem aisL_ok {u : Value} {a : aV} (h : aVs E u a) : zlong u = aisL a := by
  match a, h with
  | .inl (.inl a), h =>
    obtain ⟨x, rfl, -⟩ := h
    rfl
  | .inl (.inr a), h =>
    obtain ⟨x, rfl, -⟩ := h
    rfl
  | .inr l, h =>
    obtain ⟨x, rfl, -⟩ := h
    rfl
theorem at_39 (R : aRel S rf iv E (cs, T, pc, al, as) (pc, lo, st, h)) (h0 : aq39 len (cs, T, pc, al, as) = some (.inl Ys)) : ∃ y, zs39 len (pc, lo, st, h) = some (.inl y) ∧ aGo S rf iv W E Ys (pc, lo, st, h) y := by
  obtain ⟨hs, -, hl, hst, hh⟩ := R
  simp only [aq39, ago] at h0
  split at h0
  · rename_i w r
    obtain ⟨u, sr, rfl, h2, h3⟩ := aSt_cons hst
    cases hb : aisL w
    · rw [hb] at h0
      cases h0
      refine ⟨(pc + len, lo, u :: u :: sr, h), ?_, aGo_one ⟨hs, rfl, hl, ⟨h2, h2, h3⟩, hh⟩⟩
      simp only [zs39]
      rw [aisL_ok h2, hb]
      rfl
    · rw [hb] at h0; cases h0
  · cases h0
theorem at_40 (R : aRel S rf iv E (cs, T, pc, al, as) (pc, lo, st, h)) (h0 : aq40 len (cs, T, pc, al, as) = some (.inl Ys)) : ∃ y, zs40 len (pc, lo, st, h) = some (.inl y) ∧ aGo S rf iv W E Ys (pc, lo, st, h) y := by
  obtain ⟨hs, -, hl, hst, hh⟩ := R
  simp only [aq40, ago] at h0
  split at h0
  · rename_i w1 w2 r
    obtain ⟨u, sr, rfl, h2, h3⟩ := aSt_cons hst
    obtain ⟨u2, sr, rfl, h4, h5⟩ := aSt_cons h3
    cases hb : (aisL w1 || aisL w2)
    · rw [hb] at h0
      cases h0
      refine ⟨(pc + len, lo, u :: u2 :: u :: sr, h), ?_, aGo_one ⟨hs, rfl, hl, ⟨h2, h4, h2, h5⟩, hh⟩⟩
      simp only [zs40]
      rw [aisL_ok h2, aisL_ok h4, hb]
      rfl
    · rw [hb] at h0; cases h0
  · cases h0
theorem at_41 (R : aRel S rf iv E (cs, T, pc, al, as) (pc, lo, st, h)) (h0 : aq41 len (cs, T, pc, al, as) = some (.inl Ys)) : ∃ y, zs41 len (pc, lo, st, h) = some (.inl y) ∧ aGo S rf iv W E Ys (pc, lo, st, h) y := by
  obtain ⟨hs, -, hl, hst, hh⟩ := R
  simp only [aq41, ago] at h0
  split at h0
  · rename_i w1 w2 r
    obtain ⟨u, sr, rfl, h2, h3⟩ := aSt_cons hst
    obtain ⟨u2, sr, rfl, h4, h5⟩ := aSt_cons h3
    cases hb : (aisL w1 || aisL w2)
    · rw [hb] at h0
      cases h0
      refine ⟨(pc + len, lo, u :: u2 :: u :: u2 :: sr, h), ?_, aGo_one ⟨hs, rfl, hl, ⟨h2, h4, h2, h4, h5⟩, hh⟩⟩
      simp only [zs41]
      rw [aisL_ok h2, aisL_ok h4, hb]
      rfl
    · rw [hb] at h0; cases h0
  · cases h0
theorem at_42 (R : aRel S rf iv E (cs, T, pc, al, as) (pc, lo, st, h)) (h0 : aq42 len (cs, T, pc, al, as) = some (.inl Ys)) : ∃ y, zs42 len (pc, lo, st, h) = some (.inl y) ∧ aGo S rf iv W E Ys (pc, lo, st, h) y := by
  obtain ⟨hs, -, hl, hst, hh⟩ := R
  simp only [aq42, ago] at h0
  split at h0
  · rename_i w r
    obtain ⟨u, sr, rfl, h2, h3⟩ := aSt_cons hst
    cases hb : aisL w
    · rw [hb] at h0
      cases h0
      refine ⟨(pc + len, lo, sr, h), ?_, aGo_one ⟨hs, rfl, hl, h3, hh⟩⟩
      simp only [zs42]
      rw [aisL_ok h2, hb]
      rfl
    · rw [hb] at h0; cases h0
  · cases h0
theorem at_44 (R : aRel S rf iv E (cs, T, pc, al, as) (pc, lo, st, h)) (h0 : aq44 len (cs, T, pc, al, as) = some (.inl Ys)) : ∃ y, zs44 len (pc, lo, st, h) = some (.inl y) ∧ aGo S rf iv W E Ys (pc, lo, st, h) y := by
  obtain ⟨hs, -, hl, hst, hh⟩ := R
  simp only [aq44, ago] at h0
  split at h0
  · rename_i w r
    obtain ⟨u, sr, rfl, h2, h3⟩ := aSt_cons hst
    cases hb : aisL w
    · rw [hb] at h0; cases h0
    · rw [hb] at h0
      cases h0
      refine ⟨(pc + len, lo, sr, h), ?_, aGo_one ⟨hs, rfl, hl, h3, hh⟩⟩
      simp only [zs44]
      rw [aisL_ok h2, hb]
      rfl
  · cases h0
theorem at_43 (R : aRel S rf iv E (cs, T, pc, al, as) (pc, lo, st, h)) (h0 : aq43 len a (cs, T, pc, al, as) = some (.inl Ys)) : ∃ y, zs43 len a (pc, lo, st, h) = some (.inl y) ∧ aGo S rf iv W E Ys (pc, lo, st, h) y := by
  obtain ⟨hs, -, hl, hst, hh⟩ := R
  cases h0
  exact ⟨_, rfl, aGo_one ⟨hs, rfl, hl, ⟨⟨a, rfl, List.mem_singleton.mpr rfl⟩, hst⟩, hh⟩⟩
end AR
/-! STEPS BY BOUNDS: instructions that read and write cells; a reference may be one of several cells. -/
/-- bounds of ints by cell: of a row one pair for all its places, of an object a pair a field -/
abbrev aB : Type := Nat → Option ((Int × Int) ⊕ List (Int × Int))
def aiv (B : aB) (o k : Nat) : Int × Int := match B o with
  | some (.inl q) => q
  | some (.inr l) => (match zget l k with
    | some q => q
    | none => afull)
  | none => afull
def aisA (B : aB) (o : Nat) : Bool := match B o with
  | some (.inl _) => true
  | _ => false
theorem aisA_ok {B : aB} {o : Nat} (h : aisA B o = true) (k k' : Nat) : aiv B o k = aiv B o k' := by
  unfold aisA at h
  unfold aiv
  split at h
  · rename_i q hq
    rw [hq]
  · cases h
def aall (S : Nat → Option (Nat × Nat)) (l : List Nat) (f : Nat → Nat → Nat → Bool) : Bool := l.all (fun o => match S o with
  | some (t, n) => !Nat.beq t 9 && f o t n
  | none => false)
theorem aall_ok {S : Nat → Option (Nat × Nat)} {g : List (Nat × Nat)} {l : List Nat} {f : Nat → Nat → Nat → Bool} {o : Nat} (hS : aShp S g) (h : aall S l f = true) (ho : o ∈ l) : ∃ t n, zget g o = some (t, n) ∧ f o t n = true := by
  have q := List.all_eq_true.mp h o ho
  split at q
  · rename_i t n hg
    rw [Bool.and_eq_true] at q
    have q1 := q.1
    cases hb : Nat.beq t 9
    · exact ⟨t, n, hS o t n hg hb, q.2⟩
    · rw [hb] at q1
      cases q1
  · cases q
def auni (l m : List Nat) : List Nat := l.filter (fun z => !m.elem z) ++ m
theorem auni_l {l m : List Nat} {q : Nat} (h : q ∈ l) : q ∈ auni l m := by
  unfold auni
  rw [List.mem_append]
  cases he : m.elem q
  · exact Or.inl (List.mem_filter.mpr ⟨h, by rw [he]; rfl⟩)
  · exact Or.inr (List.elem_iff.mp he)
theorem auni_r {l m : List Nat} {q : Nat} (h : q ∈ m) : q ∈ auni l m := List.mem_append.mpr (Or.inr h)
def arefs (rf : Nat → Nat → List Nat) (b : Nat) : List Nat → Option (List Nat)
  | [] => some []
  | o :: s => (match rf o b, arefs rf b s with
    | q :: qs, some m => some (auni (q :: qs) m)
    | _, _ => none)
theorem arefs_ok {rf : Nat → Nat → List Nat} {b : Nat} : ∀ {l m : List Nat} {o : Nat}, arefs rf b l = some m → o ∈ l → rf o b ≠ [] ∧ ∀ q, q ∈ rf o b → q ∈ m
  | [], _, _, _, ho => by cases ho
  | o1 :: s, m, o, h, ho => by
    unfold arefs at h
    split at h
    · rename_i q qs m1 hq hm
      cases h
      rcases List.mem_cons.mp ho with rfl | ho
      · refine ⟨by rw [hq]; exact List.cons_ne_nil _ _, fun z hz => ?_⟩
        rw [hq] at hz
        exact auni_l hz
      · obtain ⟨h1, h2⟩ := arefs_ok hm ho
        exact ⟨h1, fun z hz => auni_r (h2 z hz)⟩
    · cases h
def ajoin (B : aB) (b : Nat) : List Nat → Int × Int
  | [] => (1, 0)
  | [o] => aiv B o b
  | o :: s => (min (aiv B o b).1 (ajoin B b s).1, max (aiv B o b).2 (ajoin B b s).2)
theorem ajoin_ok {B : aB} {b : Nat} : ∀ {l : List Nat} {o : Nat}, o ∈ l → (ajoin B b l).1 ≤ (aiv B o b).1 ∧ (aiv B o b).2 ≤ (ajoin B b l).2
  | [], _, ho => by cases ho
  | [o1], o, ho => by
    rw [List.mem_singleton.mp ho]
    exact ⟨Int.le_refl _, Int.le_refl _⟩
  | o1 :: o2 :: s, o, ho => by
    unfold ajoin
    dsimp only
    rcases List.mem_cons.mp ho with rfl | ho
    · exact ⟨Int.min_le_left _ _, Int.le_max_left _ _⟩
    · have q := ajoin_ok (B := B) (b := b) ho
      exact ⟨Int.le_trans (Int.min_le_right _ _) q.1, Int.le_trans q.2 (Int.le_max_right _ _)⟩
/-- what is listed of a place of some cells falls away -/
def adrop (l : List Nat) (k : Nat) : aT → aT
  | [] => []
  | (o, k', v) :: r => bif l.elem o && Nat.beq k' k then adrop l k r else (o, k', v) :: adrop l k r
theorem adrop_ok {l : List Nat} {k : Nat} : ∀ {T : aT} {o k' : Nat} {a : aI}, afind (adrop l k T) o k' = some a → afind T o k' = some a ∧ ¬ (o ∈ l ∧ k' = k)
  | [], _, _, _, h => by cases h
  | (o1, k1, v1) :: r, o, k', a, h => by
    unfold adrop at h
    cases hb : (l.elem o1 && Nat.beq k1 k)
    · rw [hb] at h
      dsimp only [cond_false] at h
      unfold afind at h ⊢
      cases hq : (Nat.beq o1 o && Nat.beq k1 k')
      · rw [hq] at h
        exact adrop_ok h
      · rw [hq] at h
        refine ⟨h, fun w => ?_⟩
        rw [Bool.and_eq_true] at hq
        have e1 := Nat.eq_of_beq_eq_true hq.1
        have e2 := Nat.eq_of_beq_eq_true hq.2
        subst e1
        subst e2
        rw [List.elem_iff.mpr w.1, w.2, Nat.beq_refl] at hb
        cases hb
    · rw [hb] at h
      dsimp only [cond_true] at h
      obtain ⟨g1, g2⟩ := adrop_ok h
      refine ⟨?_, g2⟩
      unfold afind
      cases hq : (Nat.beq o1 o && Nat.beq k1 k')
      · exact g1
      · rw [Bool.and_eq_true] at hq hb
        have e1 := Nat.eq_of_beq_eq_true hq.1
        have e2 := Nat.eq_of_beq_eq_true hq.2
        subst e1
        subst e2
        exact absurd ⟨List.elem_iff.mp hb.1, Nat.eq_of_beq_eq_true hb.2⟩ g2
/-- what is listed of some cells falls away -/
def adropA (l : List Nat) : aT → aT
  | [] => []
  | (o, k', v) :: r => bif l.elem o then adropA l r else (o, k', v) :: adropA l r
theorem adropA_ok {l : List Nat} : ∀ {T : aT} {o k' : Nat} {a : aI}, afind (adropA l T) o k' = some a → afind T o k' = some a ∧ ¬ o ∈ l
  | [], _, _, _, h => by cases h
  | (o1, k1, v1) :: r, o, k', a, h => by
    unfold adropA at h
    cases hb : l.elem o1
    · rw [hb] at h
      dsimp only [cond_false] at h
      unfold afind at h ⊢
      cases hq : (Nat.beq o1 o && Nat.beq k1 k')
      · rw [hq] at h
        exact adropA_ok h
      · rw [hq] at h
        refine ⟨h, fun w => ?_⟩
        rw [Bool.and_eq_true] at hq
        have e1 := Nat.eq_of_beq_eq_true hq.1
        subst e1
        rw [List.elem_iff.mpr w] at hb
        cases hb
    · rw [hb] at h
      dsimp only [cond_true] at h
      obtain ⟨g1, g2⟩ := adropA_ok h
      refine ⟨?_, g2⟩
      unfold afind
      cases hq : (Nat.beq o1 o && Nat.beq k1 k')
      · exact g1
      · rw [Bool.and_eq_true] at hq
        have e1 := Nat.eq_of_beq_eq_true hq.1
        subst e1
        exact absurd (List.elem_iff.mp hb) g2
/-- a place of one of several cells is written -/
theorem aHp_wk {S : Nat → Option (Nat × Nat)} {rf : Nat → Nat → List Nat} {B : aB} {E : List Int} {T T' : aT} {h : zH} {o k : Nat} {x : Int32} (hh : aHp S rf (aiv B) E T h) (hT : ∀ o' k' a, afind T' o' k' = some a → afind T o' k' = some a ∧ ¬ (o' = o ∧ k' = k)) (h1 : (aiv B o k).1 ≤ x.toInt) (h2 : x.toInt ≤ (aiv B o k).2) : aHp S rf (aiv B) E T' (h.1, zup h.2.1 o k x, h.2.2.1, h.2.2.2) := by
  refine ⟨⟨hh.1.1, hh.1.2.1, fun o' k' => ?_⟩, fun o' k' a' h' => ?_⟩
  · by_cases hq : o' = o ∧ k' = k
    · obtain ⟨rfl, rfl⟩ := hq
      dsimp only
      rw [zsame_up]
      exact ⟨h1, h2⟩
    · dsimp only
      rw [zne_up hq]
      exact hh.1.2.2 o' k'
  · obtain ⟨g1, g2⟩ := hT o' k' a' h'
    dsimp only
    rw [zne_up g2]
    exact hh.2 o' k' a' g1
/-- a read of a place of a known cell: listed, or a new entry that is listed -/
def ard (B : aB) (cs : aCs) (T : aT) (o k : Nat) : aCs × aT × aI := match afind T o k with
  | some i => (cs, T, i)
  | none => (cs ++ [aiv B o k], (o, k, .inl (cs.length, 0)) :: T, .inl (cs.length, 0))
theorem ard_ok {S : Nat → Option (Nat × Nat)} {rf : Nat → Nat → List Nat} {B : aB} {E : List Int} {cs : aCs} {T : aT} {h : zH} {o k : Nat} (hs : aSat E cs) (hh : aHp S rf (aiv B) E T h) : ∃ q, aSat (E ++ q) (ard B cs T o k).1 ∧ aHp S rf (aiv B) (E ++ q) (ard B cs T o k).2.1 h ∧ aIs (E ++ q) (h.2.1 o k).toInt (ard B cs T o k).2.2 := by
  unfold ard
  cases hf : afind T o k with
  | some i => exact ⟨[], by rw [List.append_nil]; exact hs, by rw [List.append_nil]; exact hh, by rw [List.append_nil]; exact hh.2 o k i hf⟩
  | none =>
    have b := hh.1.2.2 o k
    have hn : aIs (E ++ [(h.2.1 o k).toInt]) (h.2.1 o k).toInt (.inl (cs.length, 0)) := by rw [← hs.1]; exact aIs_new
    exact ⟨[(h.2.1 o k).toInt], aSat_ext hs b.1 b.2, aHp_note (aHp_ext hh) hn, hn⟩
def aqn (B : aB) (cs : aCs) (T : aT) (pc : Nat) (al : List (Option aV)) (r : List aV) (b : Nat) : List Nat → Option aR
  | [] => none
  | [o] => ago ((ard B cs T o b).1, (ard B cs T o b).2.1, pc, al, .inl (.inl (ard B cs T o b).2.2) :: r)
  | o1 :: o2 :: s => ago ((anew cs (ajoin B b (o1 :: o2 :: s))).1, T, pc, al, .inl (.inl (anew cs (ajoin B b (o1 :: o2 :: s))).2) :: r)
def aqr (rf : Nat → Nat → List Nat) (cs : aCs) (T : aT) (pc : Nat) (al : List (Option aV)) (r : List aV) (b : Nat) (l : List Nat) : Option aR := match arefs rf b l with
  | some m => ago (cs, T, pc, al, .inr m :: r)
  | none => none
def aq20 (S : Nat → Option (Nat × Nat)) (rf : Nat → Nat → List Nat) (B : aB) (len a b c : Nat) : aX → Option aR := fun (cs, T, pc, al, st) => match st with
  | .inr l :: r => bif aall S l (fun _ t n => Nat.beq t (10 + a) && Nat.blt b n) then (match c with
    | 1 => aqr rf cs T (pc + len) al r b l
    | _ => aqn B cs T (pc + len) al r b l) else none
  | _ => none
def aq21 (S : Nat → Option (Nat × Nat)) (B : aB) (W : Nat → Nat → Bool) (len a b c : Nat) : aX → Option aR := fun (cs, T, pc, al, st) => match st with
  | .inl (.inl x) :: .inr l :: r => bif aall S l (fun o t n => (Nat.beq t (10 + a) && Nat.blt b n) && (W o b && (decide ((aiv B o b).1 ≤ (abd cs x).1) && decide ((abd cs x).2 ≤ (aiv B o b).2)))) && (Nat.beq c 0 || (Nat.beq c 2 && (decide (0 ≤ (abd cs x).1) && decide ((abd cs x).2 ≤ 1)))) then (match l with
    | [o] => ago (cs, (o, b, x) :: T, pc + len, al, r)
    | l => ago (cs, adrop l b T, pc + len, al, r)) else none
  | _ => none
section AC2
variable {S : Nat → Option (Nat × Nat)} {rf : Nat → Nat → List Nat} {B : aB} {W : Nat → Nat → Bool} {E : List Int} {cs : aCs} {T : aT} {al : List (Option aV)} {as : List aV} {pc len a b k3 : Nat} {v : Value} {lo : List (Option Value)} {st : List Value} {h : zH} {Ys : List aX}
theorem aqn_ok {o pc' : Nat} {r : List aV} {l : List Nat} {sr st' : List Value} (hs : aSat E cs) (hl : aLo E lo al) (h3 : aSt E sr r) (hh : aHp S rf (aiv B) E T h) (ho : o ∈ l) (h0 : aqn B cs T pc' al r b l = some (.inl Ys)) : aGo S rf (aiv B) W E Ys (pc, lo, st', h) (pc', lo, .int (h.2.1 o b) :: sr, h) := by
  match l, ho, h0 with
  | [], ho, _ => cases ho
  | [o1], ho, h0 =>
    have e := List.mem_singleton.mp ho
    subst e
    cases h0
    obtain ⟨q, g1, g2, g3⟩ := ard_ok (o := o) (k := b) hs hh
    exact ⟨⟨q, _, List.mem_singleton.mpr rfl, g1, rfl, aLo_ext hl, ⟨⟨_, rfl, g3⟩, aSt_ext h3⟩, g2⟩, fun _ _ _ => rfl⟩
  | o1 :: o2 :: s, ho, h0 =>
    cases h0
    have q := ajoin_ok (B := B) (b := b) ho
    have q2 := hh.1.2.2 o b
    exact aGo_int (aGot_new hs (Int.le_trans q.1 q2.1) (Int.le_trans q2.2 q.2)) hl h3 hh
theorem aqr_ok {o pc' : Nat} {r : List aV} {l : List Nat} {sr st' : List Value} (hs : aSat E cs) (hl : aLo E lo al) (h3 : aSt E sr r) (hh : aHp S rf (aiv B) E T h) (ho : o ∈ l) (h0 : aqr rf cs T pc' al r b l = some (.inl Ys)) : aGo S rf (aiv B) W E Ys (pc, lo, st', h) (pc', lo, va_rf (h.2.2.2 o b) :: sr, h) := by
  unfold aqr at h0
  cases hr : arefs rf b l with
  | none => rw [hr] at h0; cases h0
  | some m =>
    rw [hr] at h0
    cases h0
    obtain ⟨e0, e3⟩ := arefs_ok hr ho
    obtain ⟨q, e1, e2⟩ := hh.1.2.1 o b e0
    have e2 := e3 q e2
    rw [e1]
    exact aGo_one ⟨hs, rfl, hl, ⟨⟨q, rfl, e2⟩, h3⟩, hh⟩
theorem at_20 (R : aRel S rf (aiv B) E (cs, T, pc, al, as) (pc, lo, st, h)) (h0 : aq20 S rf B len a b k3 (cs, T, pc, al, as) = some (.inl Ys)) : ∃ y, zs20 len a b k3 (pc, lo, st, h) = some (.inl y) ∧ aGo S rf (aiv B) W E Ys (pc, lo, st, h) y := by
  obtain ⟨hs, -, hl, hst, hh⟩ := R
  unfold aq20 at h0
  dsimp only at h0
  split at h0
  · rename_i l r
    obtain ⟨u, sr, rfl, ⟨o, rfl, ho⟩, h3⟩ := aSt_cons hst
    cases hb : aall S l (fun _ t n => Nat.beq t (10 + a) && Nat.blt b n)
    · rw [hb] at h0; cases h0
    · rw [hb] at h0
      dsimp only [cond_true] at h0
      obtain ⟨t, n, hg, hc⟩ := aall_ok hh.1.1 hb ho
      match k3, h0 with
      | 0, h0 =>
        refine ⟨_, ?_, aqn_ok hs hl h3 hh ho h0⟩
        simp only [zs20]
        rw [hg]
        dsimp only
        rw [hc]
        rfl
      | 1, h0 =>
        refine ⟨_, ?_, aqr_ok hs hl h3 hh ho h0⟩
        simp only [zs20]
        rw [hg]
        dsimp only
        rw [hc]
        rfl
      | k4 + 2, h0 =>
        refine ⟨_, ?_, aqn_ok hs hl h3 hh ho h0⟩
        simp only [zs20]
        rw [hg]
        dsimp only
        rw [hc]
        rfl
  · cases h0
theorem at_21 (R : aRel S rf (aiv B) E (cs, T, pc, al, as) (pc, lo, st, h)) (h0 : aq21 S B W len a b k3 (cs, T, pc, al, as) = some (.inl Ys)) : ∃ y, zs21 len a b k3 (pc, lo, st, h) = some (.inl y) ∧ aGo S rf (aiv B) W E Ys (pc, lo, st, h) y := by
  obtain ⟨hs, -, hl, hst, hh⟩ := R
  simp only [aq21, ago] at h0
  split at h0
  · rename_i ax l r
    obtain ⟨u, sr, rfl, ⟨x, rfl, h2⟩, h3⟩ := aSt_cons hst
    obtain ⟨u, sr, rfl, ⟨o, rfl, ho⟩, h5⟩ := aSt_cons h3
    have bx := abd_ok (cs := cs) hs h2
    generalize hcnd : (aall S l (fun o t n => (Nat.beq t (10 + a) && Nat.blt b n) && (W o b && (decide ((aiv B o b).1 ≤ (abd cs ax).1) && decide ((abd cs ax).2 ≤ (aiv B o b).2)))) && (Nat.beq k3 0 || (Nat.beq k3 2 && (decide (0 ≤ (abd cs ax).1) && decide ((abd cs ax).2 ≤ 1))))) = cnd at h0
    cases cnd with
    | false => cases h0
    | true =>
      dsimp only [cond_true] at h0
      rw [Bool.and_eq_true] at hcnd
      obtain ⟨c1, c2⟩ := hcnd
      obtain ⟨t, n, hg, hc⟩ := aall_ok hh.1.1 c1 ho
      rw [Bool.and_eq_true] at hc
      obtain ⟨d1, hc⟩ := hc
      rw [Bool.and_eq_true, Bool.and_eq_true, decide_eq_true_eq, decide_eq_true_eq] at hc
      obtain ⟨d2, d3, d4⟩ := hc
      have key : zs21 len a b k3 (pc, lo, .int x :: .ref o :: sr, h) = some (.inl (pc + len, lo, sr, (h.1, zup h.2.1 o b x, h.2.2.1, h.2.2.2))) := by
        simp only [zs21]
        rw [hg]
        dsimp only
        rw [d1]
        dsimp only [cond_true]
        rw [Bool.or_eq_true] at c2
        rcases c2 with c2 | c2
        · have e := Nat.eq_of_beq_eq_true c2
          subst e
          rfl
        · rw [Bool.and_eq_true, Bool.and_eq_true, decide_eq_true_eq, decide_eq_true_eq] at c2
          have e := Nat.eq_of_beq_eq_true c2.1
          subst e
          have hx : x = 0 ∨ x = 1 := by
            rcases (show x.toInt = 0 ∨ x.toInt = 1 by omega) with q | q
            · exact Or.inl (Int32.toInt_inj.mp q)
            · exact Or.inr (Int32.toInt_inj.mp q)
          show (if x = 0 ∨ x = 1 then _ else none) = _
          rw [if_pos hx]
          rfl
      have frame : ∀ o' k', W o' k' = false → zup h.2.1 o b x o' k' = h.2.1 o' k' := by
        intro o' k' hw
        refine zne_up (fun q => ?_)
        rw [q.1, q.2, d2] at hw
        cases hw
      refine ⟨_, key, ?_⟩
      have many : Ys = [(cs, adrop l b T, pc + len, al, r)] → aGo S rf (aiv B) W E Ys (pc, lo, .int x :: .ref o :: sr, h) (pc + len, lo, sr, (h.1, zup h.2.1 o b x, h.2.2.1, h.2.2.2)) := by
        intro e
        subst e
        have hw : ∀ o' k' a', afind (adrop l b T) o' k' = some a' → afind T o' k' = some a' ∧ ¬ (o' = o ∧ k' = b) := by
          intro o' k' a' g
          obtain ⟨g1, g2⟩ := adrop_ok g
          exact ⟨g1, fun q => g2 ⟨by rw [q.1]; exact ho, q.2⟩⟩
        have hv : aHp S rf (aiv B) E (adrop l b T) (h.1, zup h.2.1 o b x, h.2.2.1, h.2.2.2) := aHp_wk hh hw (by omega) (by omega)
        exact ⟨⟨[], _, List.mem_singleton.mpr rfl, by rw [List.append_nil]; exact ⟨hs, rfl, hl, h5, hv⟩⟩, frame⟩
      match l, ho, h0, many with
      | [], ho, _, _ => cases ho
      | [o1], ho, h0, _ =>
        have e := List.mem_singleton.mp ho
        subst e
        cases h0
        exact ⟨⟨[], _, List.mem_singleton.mpr rfl, by rw [List.append_nil]; exact ⟨hs, rfl, hl, h5, aHp_put hh h2 (by omega) (by omega)⟩⟩, frame⟩
      | o1 :: o2 :: s, ho, h0, many =>
        cases h0
        exact many rfl
  · cases h0
end AC2
/-! STEPS BY BOUNDS: instructions that read and write rows. -/
theorem azix {i : Int32} (h : 0 ≤ i.toInt) : (zix i : Int) = i.toInt := by
  have e : i.toInt = i.toBitVec.toInt := rfl
  have q := BitVec.toInt_eq_toNat_cond i.toBitVec
  have b := i.toBitVec.isLt
  unfold zix
  rw [e] at h ⊢
  rw [q] at h ⊢
  split
  · rfl
  · rename_i hn
    rw [if_neg hn] at h
    omega
def afulL : Int × Int := (-9223372036854775808, 9223372036854775807)
theorem afulL_ok (x : Int64) : afulL.1 ≤ x.toInt ∧ x.toInt ≤ afulL.2 := by
  have h1 := Int64.le_toInt x
  have h2 := Int64.toInt_lt x
  unfold afulL
  dsimp only
  omega
/-- the cells at some places of some rows -/
def arows (rf : Nat → Nat → List Nat) (l : List Nat) : List Nat → Option (List Nat)
  | [] => some []
  | k :: ks => (match arefs rf k l, arows rf l ks with
    | some m, some m' => some (auni m m')
    | _, _ => none)
theorem arows_ok {rf : Nat → Nat → List Nat} {l : List Nat} {o : Nat} (ho : o ∈ l) : ∀ {ks m : List Nat} {k : Nat}, arows rf l ks = some m → k ∈ ks → rf o k ≠ [] ∧ ∀ q, q ∈ rf o k → q ∈ m
  | [], _, _, _, hk => by cases hk
  | k1 :: ks, m, k, h, hk => by
    unfold arows at h
    split at h
    · rename_i m1 m2 e1 e2
      cases h
      rcases List.mem_cons.mp hk with rfl | hk
      · obtain ⟨g1, g2⟩ := arefs_ok e1 ho
        exact ⟨g1, fun q hq => auni_l (g2 q hq)⟩
      · obtain ⟨g1, g2⟩ := arows_ok ho e2 hk
        exact ⟨g1, fun q hq => auni_r (g2 q hq)⟩
    · cases h
def aixs (q : Int × Int) : List Nat := List.range' q.1.toNat (q.2 - q.1 + 1).toNat
theorem aixs_ok {q : Int × Int} {k : Nat} (h1 : q.1 ≤ (k : Int)) (h2 : (k : Int) ≤ q.2) (h0 : 0 ≤ q.1) : k ∈ aixs q := by
  unfold aixs
  rw [List.mem_range'_1]
  omega
/-- an index is inside of some rows -/
def ain (S : Nat → Option (Nat × Nat)) (cs : aCs) (i : aI) (l : List Nat) (f : Nat → Nat → Bool) : Bool := decide (0 ≤ (abd cs i).1) && aall S l (fun o t n => f o t && decide ((abd cs i).2 < n))
theorem ain_ok {S : Nat → Option (Nat × Nat)} {g : List (Nat × Nat)} {cs : aCs} {E : List Int} {i : aI} {l : List Nat} {f : Nat → Nat → Bool} {o : Nat} {x : Int32} (hS : aShp S g) (h : ain S cs i l f = true) (hs : aSat E cs) (hx : aIs E x.toInt i) (ho : o ∈ l) : ∃ t n, zget g o = some (t, n) ∧ f o t = true ∧ Nat.blt (zix x) n = true ∧ (zix x : Int) = x.toInt ∧ 0 ≤ (abd cs i).1 ∧ (abd cs i).1 ≤ (zix x : Int) ∧ (zix x : Int) ≤ (abd cs i).2 := by
  unfold ain at h
  rw [Bool.and_eq_true, decide_eq_true_eq] at h
  obtain ⟨t, n, h1, h2⟩ := aall_ok hS h.2 ho
  rw [Bool.and_eq_true, decide_eq_true_eq] at h2
  have b := abd_ok hs hx
  have z := azix (i := x) (Int.le_trans h.1 b.1)
  refine ⟨t, n, h1, h2.1, ?_, z, h.1, by omega, by omega⟩
  rw [Nat.blt_eq]
  omega
/-- bounds over some places of some cells -/
def ajoinK (B : aB) (l : List Nat) : List Nat → Int × Int
  | [] => (1, 0)
  | [k] => ajoin B k l
  | k :: k2 :: ks => (min (ajoin B k l).1 (ajoinK B l (k2 :: ks)).1, max (ajoin B k l).2 (ajoinK B l (k2 :: ks)).2)
theorem ajoinK_ok {B : aB} {l : List Nat} {o : Nat} (ho : o ∈ l) : ∀ {ks : List Nat} {k : Nat}, k ∈ ks → (ajoinK B l ks).1 ≤ (aiv B o k).1 ∧ (aiv B o k).2 ≤ (ajoinK B l ks).2
  | [], _, hk => by cases hk
  | [k1], k, hk => by
    rw [List.mem_singleton.mp hk]
    exact ajoin_ok ho
  | k1 :: k2 :: ks, k, hk => by
    unfold ajoinK
    dsimp only
    rcases List.mem_cons.mp hk with rfl | hk
    · have q := ajoin_ok (B := B) (b := k) ho
      exact ⟨Int.le_trans (Int.min_le_left _ _) q.1, Int.le_trans q.2 (Int.le_max_left _ _)⟩
    · have q := ajoinK_ok (B := B) ho hk
      exact ⟨Int.le_trans (Int.min_le_right _ _) q.1, Int.le_trans q.2 (Int.le_max_right _ _)⟩
def aq22 (S : Nat → Option (Nat × Nat)) (B : aB) (len : Nat) : aX → Option aR := fun (cs, T, pc, al, st) => match st with
  | .inl (.inl i) :: .inr l :: r => bif ain S cs i l (fun _ t => Nat.beq t 0 || Nat.beq t 5) then (match i with
    | .inr n => aqn B cs T (pc + len) al r n.toNat l
    | .inl _ => bif l.all (aisA B) then ago ((anew cs (ajoin B 0 l)).1, T, pc + len, al, .inl (.inl (anew cs (ajoin B 0 l)).2) :: r) else ago ((anew cs (ajoinK B l (aixs (abd cs i)))).1, T, pc + len, al, .inl (.inl (anew cs (ajoinK B l (aixs (abd cs i)))).2) :: r)) else none
  | _ => none
def aq23 (S : Nat → Option (Nat × Nat)) (len : Nat) : aX → Option aR := fun (cs, T, pc, al, st) => match st with
  | .inl (.inl i) :: .inr l :: r => bif ain S cs i l (fun _ t => Nat.beq t 1) then ago ((anew cs afulL).1, T, pc + len, al, .inl (.inr (anew cs afulL).2) :: r) else none
  | _ => none
def aq24 (S : Nat → Option (Nat × Nat)) (rf : Nat → Nat → List Nat) (len : Nat) : aX → Option aR := fun (cs, T, pc, al, st) => match st with
  | .inl (.inl i) :: .inr l :: r => bif ain S cs i l (fun _ t => Nat.ble 2 t && Nat.ble t 4) then (match arows rf l (aixs (abd cs i)) with
    | some m => ago (cs, T, pc + len, al, .inr m :: r)
    | none => none) else none
  | _ => none
section AR2
variable {S : Nat → Option (Nat × Nat)} {rf : Nat → Nat → List Nat} {B : aB} {W : Nat → Nat → Bool} {E : List Int} {cs : aCs} {T : aT} {al : List (Option aV)} {as : List aV} {pc len a b k3 : Nat} {v : Value} {lo : List (Option Value)} {st : List Value} {h : zH} {Ys : List aX}
theorem at_22 (R : aRel S rf (aiv B) E (cs, T, pc, al, as) (pc, lo, st, h)) (h0 : aq22 S B len (cs, T, pc, al, as) = some (.inl Ys)) : ∃ y, zs22 len (pc, lo, st, h) = some (.inl y) ∧ aGo S rf (aiv B) W E Ys (pc, lo, st, h) y := by
  obtain ⟨hs, -, hl, hst, hh⟩ := R
  unfold aq22 at h0
  dsimp only at h0
  split at h0
  · rename_i i l r
    obtain ⟨u, sr, rfl, ⟨x, rfl, h2⟩, h3⟩ := aSt_cons hst
    obtain ⟨u, sr, rfl, ⟨o, rfl, ho⟩, h5⟩ := aSt_cons h3
    cases hb : ain S cs i l (fun _ t => Nat.beq t 0 || Nat.beq t 5)
    · rw [hb] at h0; cases h0
    · rw [hb] at h0
      dsimp only [cond_true] at h0
      obtain ⟨t, n, hg, hf, hz, hx, p1, p2, p3⟩ := ain_ok hh.1.1 hb hs h2 ho
      have key : zs22 len (pc, lo, .int x :: .ref o :: sr, h) = some (.inl (pc + len, lo, .int (h.2.1 o (zix x)) :: sr, h)) := by
        simp only [zs22]
        rw [hg]
        dsimp only
        rw [hf, hz]
        rfl
      refine ⟨_, key, ?_⟩
      have q2 := hh.1.2.2 o (zix x)
      match i, h2, p1, p2, p3, h0 with
      | .inr n, h2, p1, p2, p3, h0 =>
        have e : zix x = n.toNat := by
          have h2 : x.toInt = n := h2
          omega
        rw [e]
        exact aqn_ok hs hl h5 hh ho h0
      | .inl p, h2, p1, p2, p3, h0 =>
        dsimp only at h0
        cases hu : l.all (aisA B)
        · rw [hu] at h0
          cases h0
          have q := ajoinK_ok (B := B) ho (aixs_ok p2 p3 p1)
          exact aGo_int (aGot_new hs (Int.le_trans q.1 q2.1) (Int.le_trans q2.2 q.2)) hl h5 hh
        · rw [hu] at h0
          cases h0
          have q := ajoin_ok (B := B) (b := 0) ho
          rw [aisA_ok (List.all_eq_true.mp hu o ho) (zix x) 0] at q2
          exact aGo_int (aGot_new hs (Int.le_trans q.1 q2.1) (Int.le_trans q2.2 q.2)) hl h5 hh
  · cases h0
theorem at_23 (R : aRel S rf (aiv B) E (cs, T, pc, al, as) (pc, lo, st, h)) (h0 : aq23 S len (cs, T, pc, al, as) = some (.inl Ys)) : ∃ y, zs23 len (pc, lo, st, h) = some (.inl y) ∧ aGo S rf (aiv B) W E Ys (pc, lo, st, h) y := by
  obtain ⟨hs, -, hl, hst, hh⟩ := R
  unfold aq23 ago at h0
  dsimp only at h0
  split at h0
  · rename_i i l r
    obtain ⟨u, sr, rfl, ⟨x, rfl, h2⟩, h3⟩ := aSt_cons hst
    obtain ⟨u, sr, rfl, ⟨o, rfl, ho⟩, h5⟩ := aSt_cons h3
    cases hb : ain S cs i l (fun _ t => Nat.beq t 1)
    · rw [hb] at h0; cases h0
    · rw [hb] at h0
      cases h0
      obtain ⟨t, n, hg, hf, hz, hx, -, -, -⟩ := ain_ok hh.1.1 hb hs h2 ho
      have key : zs23 len (pc, lo, .int x :: .ref o :: sr, h) = some (.inl (pc + len, lo, .long (h.2.2.1 o (zix x)) :: sr, h)) := by
        simp only [zs23]
        rw [hg]
        dsimp only
        rw [hf, hz]
        rfl
      refine ⟨_, key, ?_⟩
      have w := afulL_ok (h.2.2.1 o (zix x))
      obtain ⟨q, g1, g2⟩ := aGot_new (z := (h.2.2.1 o (zix x)).toInt) hs w.1 w.2
      exact ⟨⟨q, _, List.mem_singleton.mpr rfl, g1, rfl, aLo_ext hl, ⟨⟨_, rfl, g2⟩, aSt_ext h5⟩, aHp_ext hh⟩, fun _ _ _ => rfl⟩
  · cases h0
theorem at_24 (R : aRel S rf (aiv B) E (cs, T, pc, al, as) (pc, lo, st, h)) (h0 : aq24 S rf len (cs, T, pc, al, as) = some (.inl Ys)) : ∃ y, zs24 len (pc, lo, st, h) = some (.inl y) ∧ aGo S rf (aiv B) W E Ys (pc, lo, st, h) y := by
  obtain ⟨hs, -, hl, hst, hh⟩ := R
  unfold aq24 ago at h0
  dsimp only at h0
  split at h0
  · rename_i i l r
    obtain ⟨u, sr, rfl, ⟨x, rfl, h2⟩, h3⟩ := aSt_cons hst
    obtain ⟨u, sr, rfl, ⟨o, rfl, ho⟩, h5⟩ := aSt_cons h3
    cases hb : ain S cs i l (fun _ t => Nat.ble 2 t && Nat.ble t 4)
    · rw [hb] at h0; cases h0
    · rw [hb] at h0
      dsimp only [cond_true] at h0
      obtain ⟨t, n, hg, hf, hz, hx, p1, p2, p3⟩ := ain_ok hh.1.1 hb hs h2 ho
      cases hr : arows rf l (aixs (abd cs i)) with
      | none => rw [hr] at h0; cases h0
      | some m =>
        rw [hr] at h0
        cases h0
        obtain ⟨g0, g3⟩ := arows_ok ho hr (aixs_ok p2 p3 p1)
        obtain ⟨q, g1, g2⟩ := hh.1.2.1 o (zix x) g0
        have g2 := g3 q g2
        have key : zs24 len (pc, lo, .int x :: .ref o :: sr, h) = some (.inl (pc + len, lo, .ref q :: sr, h)) := by
          simp only [zs24]
          rw [hg]
          dsimp only
          rw [hf, hz, g1]
          rfl
        exact ⟨_, key, aGo_one ⟨hs, rfl, hl, ⟨⟨q, rfl, g2⟩, h5⟩, hh⟩⟩
  · cases h0
end AR2
/-! STEPS BY BOUNDS: writes of rows, lengths, the returns. -/
/-- a number fits all places that an index may mean -/
def afit (B : aB) (q p : Int × Int) (o : Nat) : Bool := bif aisA B o then decide ((aiv B o 0).1 ≤ p.1) && decide (p.2 ≤ (aiv B o 0).2) else (aixs q).all (fun k => decide ((aiv B o k).1 ≤ p.1) && decide (p.2 ≤ (aiv B o k).2))
theorem afit_ok {B : aB} {q p : Int × Int} {o k : Nat} (h : afit B q p o = true) (hk : k ∈ aixs q) : (aiv B o k).1 ≤ p.1 ∧ p.2 ≤ (aiv B o k).2 := by
  unfold afit at h
  cases hu : aisA B o
  · rw [hu] at h
    have h := List.all_eq_true.mp h k hk
    rw [Bool.and_eq_true, decide_eq_true_eq, decide_eq_true_eq] at h
    exact h
  · rw [hu] at h
    dsimp only [cond_true] at h
    rw [Bool.and_eq_true, decide_eq_true_eq, decide_eq_true_eq] at h
    rw [aisA_ok hu k 0]
    exact h
/-- what is listed of some places of some cells falls away -/
def adropR (l : List Nat) (q : Int × Int) : aT → aT
  | [] => []
  | (o, k', v) :: r => bif l.elem o && (decide (q.1 ≤ (k' : Int)) && decide ((k' : Int) ≤ q.2)) then adropR l q r else (o, k', v) :: adropR l q r
theorem adropR_ok {l : List Nat} {q : Int × Int} : ∀ {T : aT} {o k' : Nat} {a : aI}, afind (adropR l q T) o k' = some a → afind T o k' = some a ∧ ¬ (o ∈ l ∧ q.1 ≤ (k' : Int) ∧ (k' : Int) ≤ q.2)
  | [], _, _, _, h => by cases h
  | (o1, k1, v1) :: r, o, k', a, h => by
    unfold adropR at h
    cases hb : (l.elem o1 && (decide (q.1 ≤ (k1 : Int)) && decide ((k1 : Int) ≤ q.2)))
    · rw [hb] at h
      dsimp only [cond_false] at h
      unfold afind at h ⊢
      cases hq : (Nat.beq o1 o && Nat.beq k1 k')
      · rw [hq] at h
        exact adropR_ok h
      · rw [hq] at h
        refine ⟨h, fun w => ?_⟩
        rw [Bool.and_eq_true] at hq
        have e1 := Nat.eq_of_beq_eq_true hq.1
        have e2 := Nat.eq_of_beq_eq_true hq.2
        subst e1
        subst e2
        rw [List.elem_iff.mpr w.1, decide_eq_true w.2.1, decide_eq_true w.2.2] at hb
        cases hb
    · rw [hb] at h
      dsimp only [cond_true] at h
      obtain ⟨g1, g2⟩ := adropR_ok h
      refine ⟨?_, g2⟩
      unfold afind
      cases hq : (Nat.beq o1 o && Nat.beq k1 k')
      · exact g1
      · rw [Bool.and_eq_true] at hq hb
        have e1 := Nat.eq_of_beq_eq_true hq.1
        have e2 := Nat.eq_of_beq_eq_true hq.2
        subst e1
        subst e2
        rw [Bool.and_eq_true, decide_eq_true_eq, decide_eq_true_eq] at hb
        exact absurd ⟨List.elem_iff.mp hb.1, hb.2.1, hb.2.2⟩ g2
def aq25 (S : Nat → Option (Nat × Nat)) (B : aB) (W : Nat → Nat → Bool) (WA : Nat → Bool) (len : Nat) : aX → Option aR := fun (cs, T, pc, al, st) => match st with
  | .inl (.inl x) :: .inl (.inl i) :: .inr l :: r => bif ain S cs i l (fun o t => Nat.beq t 0 && afit B (abd cs i) (abd cs x) o) then (match i, l with
    | .inr n, [o] => bif W o n.toNat then ago (cs, (o, n.toNat, x) :: T, pc + len, al, r) else none
    | _, _ => bif l.all WA then ago (cs, adropR l (abd cs i) T, pc + len, al, r) else none) else none
  | _ => none
def aq26 (S : Nat → Option (Nat × Nat)) (len : Nat) : aX → Option aR := fun (cs, T, pc, al, st) => match st with
  | .inl (.inr _) :: .inl (.inl i) :: .inr l :: r => bif ain S cs i l (fun _ t => Nat.beq t 1) then ago (cs, T, pc + len, al, r) else none
  | _ => none
def aq28 (S : Nat → Option (Nat × Nat)) (len : Nat) : aX → Option aR := fun (cs, T, pc, al, st) => match st with
  | .inr (o1 :: l) :: r => (match S o1 with
    | some (_, n) => bif aall S (o1 :: l) (fun _ t m => Nat.ble t 5 && Nat.beq m n) then ago (cs, T, pc + len, al, .inl (.inl (.inr (Int32.ofNat n).toInt)) :: r) else none
    | none => none)
  | _ => none
def aq35 (c : Nat) : aX → Option aR := fun (cs, _, _, _, st) => match st with
  | [.inl (.inl x)] => (match c with
    | 1 => bif decide (0 ≤ (abd cs x).1) && decide ((abd cs x).2 ≤ 1) then some (.inr (.inr (some (.inl (.inl x))))) else none
    | _ => some (.inr (.inr (some (.inl (.inl x))))))
  | _ => none
def aq36 : aX → Option aR := fun (_, _, _, _, st) => match st with
  | [.inl (.inr x)] => some (.inr (.inr (some (.inl (.inr x)))))
  | _ => none
def aq37 : aX → Option aR := fun (_, _, _, _, st) => match st with
  | [.inr l] => some (.inr (.inr (some (.inr l))))
  | _ => none
def aq38 : aX → Option aR := fun (_, _, _, _, st) => match st with
  | [] => some (.inr (.inr none))
  | _ => none
/-- what a return hands back -/
def aRet (E : List Int) : Option Value → Option aV → Prop
  | some v, some a => aVs E v a
  | none, none => True
  | _, _ => False
section AS2
variable {S : Nat → Option (Nat × Nat)} {rf : Nat → Nat → List Nat} {B : aB} {W : Nat → Nat → Bool} {WA : Nat → Bool} {E : List Int} {cs : aCs} {T : aT} {al : List (Option aV)} {as : List aV} {pc len a b k3 : Nat} {v : Value} {lo : List (Option Value)} {st : List Value} {h : zH} {Ys : List aX} {w : Option aV}
theorem at_25 (hW : ∀ o k, WA o = true → W o k = true) (R : aRel S rf (aiv B) E (cs, T, pc, al, as) (pc, lo, st, h)) (h0 : aq25 S B W WA len (cs, T, pc, al, as) = some (.inl Ys)) : ∃ y, zs25 len (pc, lo, st, h) = some (.inl y) ∧ aGo S rf (aiv B) W E Ys (pc, lo, st, h) y := by
  obtain ⟨hs, -, hl, hst, hh⟩ := R
  unfold aq25 ago at h0
  dsimp only at h0
  split at h0
  · rename_i ax i l r
    obtain ⟨u, sr, rfl, ⟨x, rfl, hx⟩, h3⟩ := aSt_cons hst
    obtain ⟨u, sr, rfl, ⟨j, rfl, hj⟩, h5⟩ := aSt_cons h3
    obtain ⟨u, sr, rfl, ⟨o, rfl, ho⟩, h6⟩ := aSt_cons h5
    have bx := abd_ok (cs := cs) hs hx
    cases hb : ain S cs i l (fun o t => Nat.beq t 0 && afit B (abd cs i) (abd cs ax) o)
    · rw [hb] at h0; cases h0
    · rw [hb] at h0
      dsimp only [cond_true] at h0
      obtain ⟨t, n, hg, hf, hz, hzj, p1, p2, p3⟩ := ain_ok hh.1.1 hb hs hj ho
      rw [Bool.and_eq_true] at hf
      obtain ⟨f1, f2⟩ := hf
      have f2 := afit_ok f2 (aixs_ok p2 p3 p1)
      have key : zs25 len (pc, lo, .int x :: .int j :: .ref o :: sr, h) = some (.inl (pc + len, lo, sr, (h.1, zup h.2.1 o (zix j) x, h.2.2.1, h.2.2.2))) := by
        simp only [zs25]
        rw [hg]
        dsimp only
        rw [f1, hz]
        rfl
      have b1 : (aiv B o (zix j)).1 ≤ x.toInt := by omega
      have b2 : x.toInt ≤ (aiv B o (zix j)).2 := by omega
      have frame : W o (zix j) = true → ∀ o' k', W o' k' = false → zup h.2.1 o (zix j) x o' k' = h.2.1 o' k' := by
        intro hw1 o' k' hw
        refine zne_up (fun q => ?_)
        rw [q.1, q.2, hw1] at hw
        cases hw
      refine ⟨_, key, ?_⟩
      split at h0
      · rename_i n' o1
        have e := List.mem_singleton.mp ho
        subst e
        have ej : zix j = n'.toNat := by
          have hj : j.toInt = n' := hj
          omega
        cases hw : W o n'.toNat
        · rw [hw] at h0; cases h0
        · rw [hw] at h0
          cases h0
          rw [← ej] at hw ⊢
          exact ⟨⟨[], _, List.mem_singleton.mpr rfl, by rw [List.append_nil]; exact ⟨hs, rfl, hl, h6, aHp_put hh hx b1 b2⟩⟩, frame hw⟩
      · cases hw : l.all WA
        · rw [hw] at h0; cases h0
        · rw [hw] at h0
          cases h0
          have hv : aHp S rf (aiv B) E (adropR l (abd cs i) T) (h.1, zup h.2.1 o (zix j) x, h.2.2.1, h.2.2.2) := aHp_wk hh (fun o' k' a' g => by
            obtain ⟨g1, g2⟩ := adropR_ok g
            exact ⟨g1, fun q => g2 ⟨by rw [q.1]; exact ho, by rw [q.2]; exact p2, by rw [q.2]; exact p3⟩⟩) b1 b2
          exact ⟨⟨[], _, List.mem_singleton.mpr rfl, by rw [List.append_nil]; exact ⟨hs, rfl, hl, h6, hv⟩⟩, frame (hW _ _ (List.all_eq_true.mp hw o ho))⟩
  · cases h0
theorem at_26 (R : aRel S rf (aiv B) E (cs, T, pc, al, as) (pc, lo, st, h)) (h0 : aq26 S len (cs, T, pc, al, as) = some (.inl Ys)) : ∃ y, zs26 len (pc, lo, st, h) = some (.inl y) ∧ aGo S rf (aiv B) W E Ys (pc, lo, st, h) y := by
  obtain ⟨hs, -, hl, hst, hh⟩ := R
  unfold aq26 ago at h0
  dsimp only at h0
  split at h0
  · rename_i ax i l r
    obtain ⟨u, sr, rfl, ⟨x, rfl, hx⟩, h3⟩ := aSt_cons hst
    obtain ⟨u, sr, rfl, ⟨j, rfl, hj⟩, h5⟩ := aSt_cons h3
    obtain ⟨u, sr, rfl, ⟨o, rfl, ho⟩, h6⟩ := aSt_cons h5
    cases hb : ain S cs i l (fun _ t => Nat.beq t 1)
    · rw [hb] at h0; cases h0
    · rw [hb] at h0
      cases h0
      obtain ⟨t, n, hg, hf, hz, hzj, -, -, -⟩ := ain_ok hh.1.1 hb hs hj ho
      have key : zs26 len (pc, lo, .long x :: .int j :: .ref o :: sr, h) = some (.inl (pc + len, lo, sr, (h.1, h.2.1, zup h.2.2.1 o (zix j) x, h.2.2.2))) := by
        simp only [zs26]
        rw [hg]
        dsimp only
        rw [hf, hz]
        rfl
      exact ⟨_, key, ⟨[], _, List.mem_singleton.mpr rfl, by rw [List.append_nil]; exact ⟨hs, rfl, hl, h6, hh⟩⟩, fun _ _ _ => rfl⟩
  · cases h0
theorem at_28 (R : aRel S rf (aiv B) E (cs, T, pc, al, as) (pc, lo, st, h)) (h0 : aq28 S len (cs, T, pc, al, as) = some (.inl Ys)) : ∃ y, zs28 len (pc, lo, st, h) = some (.inl y) ∧ aGo S rf (aiv B) W E Ys (pc, lo, st, h) y := by
  obtain ⟨hs, -, hl, hst, hh⟩ := R
  unfold aq28 ago at h0
  dsimp only at h0
  split at h0
  · rename_i o1 l r
    obtain ⟨u, sr, rfl, ⟨o, rfl, ho⟩, h3⟩ := aSt_cons hst
    split at h0
    · rename_i t1 n hn
      cases hb : aall S (o1 :: l) (fun _ t m => Nat.ble t 5 && Nat.beq m n)
      · rw [hb] at h0; cases h0
      · rw [hb] at h0
        cases h0
        obtain ⟨t, m, hg, hc⟩ := aall_ok hh.1.1 hb ho
        rw [Bool.and_eq_true] at hc
        have e := Nat.eq_of_beq_eq_true hc.2
        subst e
        have key : zs28 len (pc, lo, .ref o :: sr, h) = some (.inl (pc + len, lo, .int (Int32.ofNat m) :: sr, h)) := by
          simp only [zs28]
          rw [hg]
          dsimp only
          rw [hc.1]
          rfl
        exact ⟨_, key, aGo_one ⟨hs, rfl, hl, ⟨⟨_, rfl, rfl⟩, h3⟩, hh⟩⟩
    · cases h0
  · cases h0
theorem at_35 (R : aRel S rf (aiv B) E (cs, T, pc, al, as) (pc, lo, st, h)) (h0 : aq35 k3 (cs, T, pc, al, as) = some (.inr (.inr w))) : ∃ u, zs35 k3 (pc, lo, st, h) = some (.inr (.inr u)) ∧ aRet E u w := by
  obtain ⟨hs, -, hl, hst, hh⟩ := R
  unfold aq35 at h0
  dsimp only at h0
  split at h0
  · rename_i ax
    obtain ⟨u, sr, rfl, ⟨x, rfl, hx⟩, h3⟩ := aSt_cons hst
    have bx := abd_ok (cs := cs) hs hx
    cases sr with
    | cons _ _ => exact h3.elim
    | nil =>
      match k3, h0 with
      | 0, h0 =>
        cases h0
        exact ⟨_, rfl, x, rfl, hx⟩
      | 1, h0 =>
        generalize hc : (decide (0 ≤ (abd cs ax).1) && decide ((abd cs ax).2 ≤ 1)) = c at h0
        cases c with
        | false => cases h0
        | true =>
          cases h0
          rw [Bool.and_eq_true, decide_eq_true_eq, decide_eq_true_eq] at hc
          have hx1 : x = 0 ∨ x = 1 := by
            rcases (show x.toInt = 0 ∨ x.toInt = 1 by omega) with q | q
            · exact Or.inl (Int32.toInt_inj.mp q)
            · exact Or.inr (Int32.toInt_inj.mp q)
          refine ⟨some (.int x), ?_, x, rfl, hx⟩
          show (if x = 0 ∨ x = 1 then _ else none) = _
          rw [if_pos hx1]
      | k + 2, h0 =>
        cases h0
        exact ⟨_, rfl, x, rfl, hx⟩
  · cases h0
theorem at_36 (R : aRel S rf (aiv B) E (cs, T, pc, al, as) (pc, lo, st, h)) (h0 : aq36 (cs, T, pc, al, as) = some (.inr (.inr w))) : ∃ u, zs36 (pc, lo, st, h) = some (.inr (.inr u)) ∧ aRet E u w := by
  obtain ⟨hs, -, hl, hst, hh⟩ := R
  unfold aq36 at h0
  dsimp only at h0
  split at h0
  · cases h0
    obtain ⟨u, sr, rfl, ⟨x, rfl, hx⟩, h3⟩ := aSt_cons hst
    cases sr with
    | cons _ _ => exact h3.elim
    | nil => exact ⟨_, rfl, x, rfl, hx⟩
  · cases h0
theorem at_37 (R : aRel S rf (aiv B) E (cs, T, pc, al, as) (pc, lo, st, h)) (h0 : aq37 (cs, T, pc, al, as) = some (.inr (.inr w))) : ∃ u, zs37 (pc, lo, st, h) = some (.inr (.inr u)) ∧ aRet E u w := by
  obtain ⟨hs, -, hl, hst, hh⟩ := R
  unfold aq37 at h0
  dsimp only at h0
  split at h0
  · cases h0
    obtain ⟨u, sr, rfl, ⟨x, rfl, hx⟩, h3⟩ := aSt_cons hst
    cases sr with
    | cons _ _ => exact h3.elim
    | nil => exact ⟨_, rfl, x, rfl, hx⟩
  · cases h0
theorem at_38 (R : aRel S rf (aiv B) E (cs, T, pc, al, as) (pc, lo, st, h)) (h0 : aq38 (cs, T, pc, al, as) = some (.inr (.inr w))) : ∃ u, zs38 (pc, lo, st, h) = some (.inr (.inr u)) ∧ aRet E u w := by
  obtain ⟨hs, -, hl, hst, hh⟩ := R
  unfold aq38 at h0
  dsimp only at h0
  split at h0
  · cases h0
    cases st with
    | cons _ _ => exact hst.elim
    | nil => exact ⟨_, rfl, trivial⟩
  · cases h0
end AS2
/-! STEPS BY BOUNDS: calls, Math, copies of rows. -/
def acat : List aV → Nat
  | [] => 0
  | v :: r => (bif aisL v then 2 else 1) + acat r
theorem acat_ok {E : List Int} : ∀ {st : List Value} {as : List aV}, aSt E st as → zcat st = acat as
  | [], [], _ => rfl
  | [], _ :: _, h => h.elim
  | _ :: _, [], h => h.elim
  | v :: r, a :: s, h => by
    unfold zcat acat
    rw [aisL_ok h.1, acat_ok h.2]
def atake : Nat → List aV → List aV → Option (List aV × List aV)
  | 0, acc, st => some (acc, st)
  | n + 1, acc, v :: st => atake n (v :: acc) st
  | _ + 1, _, [] => none
theorem atake_ok {E : List Int} : ∀ {n : Nat} {acc st : List Value} {aacc as xs r : List aV}, aSt E acc aacc → aSt E st as → atake n aacc as = some (xs, r) → ∃ us sr, ztake n acc st = some (us, sr) ∧ aSt E us xs ∧ aSt E sr r
  | 0, acc, st, aacc, as, xs, r, h1, h2, h => by
    cases h
    exact ⟨acc, st, rfl, h1, h2⟩
  | n + 1, acc, [], aacc, [], xs, r, h1, h2, h => by cases h
  | n + 1, acc, [], aacc, a :: as, xs, r, h1, h2, h => h2.elim
  | n + 1, acc, v :: st, aacc, [], xs, r, h1, h2, h => h2.elim
  | n + 1, acc, v :: st, aacc, a :: as, xs, r, h1, h2, h => atake_ok (n := n) (acc := v :: acc) (aacc := a :: aacc) ⟨h2.1, h1⟩ h2.2 h
def aq32 (S : Nat → Option (Nat × Nat)) (len a b c ci : Nat) : aX → Option aR := fun (cs, T, pc, al, st) => match atake b [] st with
  | some (as, r) => bif Nat.ble (acat r) 8 then (match c with
    | 1 => some (.inr (.inl (a, as, (cs, T, pc + len, al, r))))
    | _ => (match as with
      | .inr l :: _ => bif aall S l (fun _ t _ => Nat.beq t (10 + ci)) then some (.inr (.inl (a, as, (cs, T, pc + len, al, r)))) else none
      | _ => none)) else none
  | none => none
def aq31a (len : Nat) : aX → Option aR := fun (cs, T, pc, al, st) => match st with
  | .inl (.inl y) :: .inl (.inl x) :: r => bif Nat.ble (acat r) 8 then ago ((anew cs (max (abd cs x).1 (abd cs y).1, max (abd cs x).2 (abd cs y).2)).1, T, pc + len, al, .inl (.inl (anew cs (max (abd cs x).1 (abd cs y).1, max (abd cs x).2 (abd cs y).2)).2) :: r) else none
  | _ => none
def aq31b (len : Nat) : aX → Option aR := fun (cs, T, pc, al, st) => match st with
  | .inl (.inl y) :: .inl (.inl x) :: r => bif Nat.ble (acat r) 8 then ago ((anew cs (min (abd cs x).1 (abd cs y).1, min (abd cs x).2 (abd cs y).2)).1, T, pc + len, al, .inl (.inl (anew cs (min (abd cs x).1 (abd cs y).1, min (abd cs x).2 (abd cs y).2)).2) :: r) else none
  | _ => none
def aq31c (len : Nat) : aX → Option aR := fun (cs, T, pc, al, st) => match st with
  | .inl (.inl x) :: r => bif Nat.ble (acat r) 8 && decide (-2147483647 ≤ (abd cs x).1) then ago ((anew cs (0, max (-(abd cs x).1) (abd cs x).2)).1, T, pc + len, al, .inl (.inl (anew cs (0, max (-(abd cs x).1) (abd cs x).2)).2) :: r) else none
  | _ => none
def aq31 (len b : Nat) (X : aX) : Option aR := match b with
  | 0 => aq31a len X
  | 1 => aq31b len X
  | _ => aq31c len X
section AK2
variable {S : Nat → Option (Nat × Nat)} {rf : Nat → Nat → List Nat} {B : aB} {W : Nat → Nat → Bool} {WA : Nat → Bool} {E : List Int} {cs : aCs} {T : aT} {al : List (Option aV)} {as xs : List aV} {pc len a b k3 ci m : Nat} {v : Value} {lo : List (Option Value)} {st : List Value} {h : zH} {Ys : List aX} {Y : aX}
theorem at_32 (R : aRel S rf (aiv B) E (cs, T, pc, al, as) (pc, lo, st, h)) (h0 : aq32 S len a b k3 ci (cs, T, pc, al, as) = some (.inr (.inl (m, xs, Y)))) : ∃ us y, zs32 len a b k3 ci (pc, lo, st, h) = some (.inr (.inl (m, us, y))) ∧ aSt E us xs ∧ aRel S rf (aiv B) E Y y ∧ y.2.2.2 = h := by
  obtain ⟨hs, -, hl, hst, hh⟩ := R
  unfold aq32 at h0
  dsimp only at h0
  cases ht : atake b [] as with
  | none => rw [ht] at h0; cases h0
  | some p =>
    obtain ⟨as', r⟩ := p
    rw [ht] at h0
    dsimp only at h0
    obtain ⟨us, sr, e1, e2, e3⟩ := atake_ok (acc := []) (aacc := []) trivial hst ht
    have ec := acat_ok e3
    cases hb : Nat.ble (acat r) 8
    · rw [hb] at h0; cases h0
    · rw [hb] at h0
      dsimp only [cond_true] at h0
      have self : ∀ k, k ≠ 1 → (match as' with
        | .inr l :: _ => bif aall S l (fun _ t _ => Nat.beq t (10 + ci)) then some (.inr (.inl (a, as', (cs, T, pc + len, al, r)))) else none
        | _ => none) = (some (.inr (.inl (m, xs, Y))) : Option aR) → ∃ us y, (match us with
        | .ref o :: _ => match zget h.1 o with
          | some (t, _) => bif Nat.beq t (10 + ci) then some (.inr (.inl (a, us, (pc + len, lo, sr, h)))) else none
          | _ => none
        | _ => none) = (some (.inr (.inl (m, us, y))) : Option zO) ∧ ztake b [] st = some (us, sr) ∧ aSt E us xs ∧ aRel S rf (aiv B) E Y y ∧ y.2.2.2 = h := by
        intro k _ g
        split at g
        · rename_i l s
          obtain ⟨u, s', rfl, ⟨o, rfl, ho⟩, h3⟩ := aSt_cons e2
          cases hc : aall S l (fun _ t _ => Nat.beq t (10 + ci))
          · rw [hc] at g; cases g
          · rw [hc] at g
            cases g
            obtain ⟨t, n, hg, hf⟩ := aall_ok hh.1.1 hc ho
            refine ⟨_, (pc + len, lo, sr, h), ?_, e1, e2, ⟨hs, rfl, hl, e3, hh⟩, rfl⟩
            dsimp only
            rw [hg]
            dsimp only
            rw [hf]
            rfl
        · cases g
      match k3, h0 with
      | 1, h0 =>
        cases h0
        refine ⟨us, (pc + len, lo, sr, h), ?_, e2, ⟨hs, rfl, hl, e3, hh⟩, rfl⟩
        simp only [zs32]
        rw [e1]
        dsimp only
        rw [ec, hb]
        rfl
      | 0, h0 =>
        obtain ⟨us', y, f1, f2, f3, f4, f5⟩ := self 0 (by omega) h0
        refine ⟨us', y, ?_, f3, f4, f5⟩
        simp only [zs32]
        rw [f2]
        dsimp only
        rw [ec, hb]
        exact f1
      | k + 2, h0 =>
        obtain ⟨us', y, f1, f2, f3, f4, f5⟩ := self 0 (by omega) h0
        refine ⟨us', y, ?_, f3, f4, f5⟩
        simp only [zs32]
        rw [f2]
        dsimp only
        rw [ec, hb]
        exact f1
theorem at_31a (R : aRel S rf (aiv B) E (cs, T, pc, al, as) (pc, lo, st, h)) (h0 : aq31a len (cs, T, pc, al, as) = some (.inl Ys)) : ∃ y, zs31 len 0 (pc, lo, st, h) = some (.inl y) ∧ aGo S rf (aiv B) W E Ys (pc, lo, st, h) y := by
  obtain ⟨hs, -, hl, hst, hh⟩ := R
  unfold aq31a ago at h0
  dsimp only at h0
  split at h0
  · rename_i ay ax r
    obtain ⟨u, sr, rfl, ⟨y, rfl, hy⟩, h3⟩ := aSt_cons hst
    obtain ⟨u, sr, rfl, ⟨x, rfl, hx⟩, h5⟩ := aSt_cons h3
    have bx := abd_ok (cs := cs) hs hx
    have by' := abd_ok (cs := cs) hs hy
    cases hb : Nat.ble (acat r) 8
    · rw [hb] at h0; cases h0
    · rw [hb] at h0
      cases h0
      refine ⟨(pc + len, lo, .int (if x < y then y else x) :: sr, h), ?_, aGo_int (aGot_new hs ?_ ?_) hl h5 hh⟩
      · simp only [zs31]
        rw [acat_ok h5, hb]
        rfl
      · dsimp only
        split
        · rename_i q
          have q := Int32.lt_iff_toInt_lt.mp q
          omega
        · rename_i q
          have q : ¬ x.toInt < y.toInt := fun w => q (Int32.lt_iff_toInt_lt.mpr w)
          omega
      · dsimp only
        split
        · rename_i q
          have q := Int32.lt_iff_toInt_lt.mp q
          omega
        · rename_i q
          have q : ¬ x.toInt < y.toInt := fun w => q (Int32.lt_iff_toInt_lt.mpr w)
          omega
  · cases h0
theorem at_31b (R : aRel S rf (aiv B) E (cs, T, pc, al, as) (pc, lo, st, h)) (h0 : aq31b len (cs, T, pc, al, as) = some (.inl Ys)) : ∃ y, zs31 len 1 (pc, lo, st, h) = some (.inl y) ∧ aGo S rf (aiv B) W E Ys (pc, lo, st, h) y := by
  obtain ⟨hs, -, hl, hst, hh⟩ := R
  unfold aq31b ago at h0
  dsimp only at h0
  split at h0
  · rename_i ay ax r
    obtain ⟨u, sr, rfl, ⟨y, rfl, hy⟩, h3⟩ := aSt_cons hst
    obtain ⟨u, sr, rfl, ⟨x, rfl, hx⟩, h5⟩ := aSt_cons h3
    have bx := abd_ok (cs := cs) hs hx
    have by' := abd_ok (cs := cs) hs hy
    cases hb : Nat.ble (acat r) 8
    · rw [hb] at h0; cases h0
    · rw [hb] at h0
      cases h0
      refine ⟨(pc + len, lo, .int (if y < x then y else x) :: sr, h), ?_, aGo_int (aGot_new hs ?_ ?_) hl h5 hh⟩
      · simp only [zs31]
        rw [acat_ok h5, hb]
        rfl
      · dsimp only
        split
        · rename_i q
          have q := Int32.lt_iff_toInt_lt.mp q
          omega
        · rename_i q
          have q : ¬ y.toInt < x.toInt := fun w => q (Int32.lt_iff_toInt_lt.mpr w)
          omega
      · dsimp only
        split
        · rename_i q
          have q := Int32.lt_iff_toInt_lt.mp q
          omega
        · rename_i q
          have q : ¬ y.toInt < x.toInt := fun w => q (Int32.lt_iff_toInt_lt.mpr w)
          omega
  · cases h0
theorem at_31c (R : aRel S rf (aiv B) E (cs, T, pc, al, as) (pc, lo, st, h)) (h0 : aq31c len (cs, T, pc, al, as) = some (.inl Ys)) : ∃ y, zs31 len (b + 2) (pc, lo, st, h) = some (.inl y) ∧ aGo S rf (aiv B) W E Ys (pc, lo, st, h) y := by
  obtain ⟨hs, -, hl, hst, hh⟩ := R
  unfold aq31c ago at h0
  dsimp only at h0
  split at h0
  · rename_i ax r
    obtain ⟨u, sr, rfl, ⟨x, rfl, hx⟩, h3⟩ := aSt_cons hst
    have bx := abd_ok (cs := cs) hs hx
    generalize hb : (Nat.ble (acat r) 8 && decide (-2147483647 ≤ (abd cs ax).1)) = c at h0
    cases c with
    | false => cases h0
    | true =>
      cases h0
      rw [Bool.and_eq_true, decide_eq_true_eq] at hb
      have en := na_neg (x := x) (by omega)
      have ez : (0 : Int32).toInt = 0 := rfl
      refine ⟨(pc + len, lo, .int (if x < 0 then -x else x) :: sr, h), ?_, aGo_int (aGot_new hs ?_ ?_) hl h3 hh⟩
      · simp only [zs31]
        rw [acat_ok h3, hb.1]
        rfl
      · dsimp only
        split
        · rename_i q
          have q := Int32.lt_iff_toInt_lt.mp q
          omega
        · rename_i q
          have q : ¬ x.toInt < (0 : Int32).toInt := fun w => q (Int32.lt_iff_toInt_lt.mpr w)
          omega
      · dsimp only
        split
        · rename_i q
          have q := Int32.lt_iff_toInt_lt.mp q
          omega
        · rename_i q
          have q : ¬ x.toInt < (0 : Int32).toInt := fun w => q (Int32.lt_iff_toInt_lt.mpr w)
          omega
  · cases h0
theorem at_31 (R : aRel S rf (aiv B) E (cs, T, pc, al, as) (pc, lo, st, h)) (h0 : aq31 len b (cs, T, pc, al, as) = some (.inl Ys)) : ∃ y, zs31 len b (pc, lo, st, h) = some (.inl y) ∧ aGo S rf (aiv B) W E Ys (pc, lo, st, h) y := by
  match b, h0 with
  | 0, h0 => exact at_31a R h0
  | 1, h0 => exact at_31b R h0
  | k + 2, h0 => exact at_31c R h0
end AK2
/-! STEPS BY BOUNDS: a row is copied into another. -/
def aq34i (S : Nat → Option (Nat × Nat)) (B : aB) (WA : Nat → Bool) (len : Nat) : aX → Option aR := fun (cs, T, pc, al, st) => match st with
  | .inl (.inl n) :: .inl (.inl dp) :: .inr l1 :: .inl (.inl sp) :: .inr l0 :: r => bif (Nat.ble (acat r) 8 && ((decide (0 ≤ (abd cs n).1) && decide ((abd cs n).2 < 100000)) && ((decide (0 ≤ (abd cs sp).1) && decide ((abd cs sp).2 < 100000)) && (decide (0 ≤ (abd cs dp).1) && decide ((abd cs dp).2 < 100000))))) && (aall S l0 (fun o t m => (Nat.beq t 0 && aisA B o) && decide ((abd cs sp).2 + (abd cs n).2 ≤ m)) && aall S l1 (fun o t m => ((Nat.beq t 0 && aisA B o) && decide ((abd cs dp).2 + (abd cs n).2 ≤ m)) && (WA o && l0.all (fun q => decide ((aiv B o 0).1 ≤ (aiv B q 0).1) && decide ((aiv B q 0).2 ≤ (aiv B o 0).2))))) then ago (cs, adropA l1 T, pc + len, al, r) else none
  | _ => none
def aq34l (S : Nat → Option (Nat × Nat)) (len : Nat) : aX → Option aR := fun (cs, T, pc, al, st) => match st with
  | .inl (.inl n) :: .inl (.inl dp) :: .inr l1 :: .inl (.inl sp) :: .inr l0 :: r => bif (Nat.ble (acat r) 8 && ((decide (0 ≤ (abd cs n).1) && decide ((abd cs n).2 < 100000)) && ((decide (0 ≤ (abd cs sp).1) && decide ((abd cs sp).2 < 100000)) && (decide (0 ≤ (abd cs dp).1) && decide ((abd cs dp).2 < 100000))))) && (aall S l0 (fun _ t m => Nat.beq t 1 && decide ((abd cs sp).2 + (abd cs n).2 ≤ m)) && aall S l1 (fun _ t m => Nat.beq t 1 && decide ((abd cs dp).2 + (abd cs n).2 ≤ m))) then ago (cs, T, pc + len, al, r) else none
  | _ => none
theorem zrk_eq {α : Type} {f : Nat → Nat → α} {o : Nat} {r : Nat → α} {k : Nat} : zrow f o r o k = r k := by
  unfold zrow
  rw [Nat.beq_refl]
  rfl
theorem zrk_ne {α : Type} {f : Nat → Nat → α} {o o' : Nat} {r : Nat → α} {k : Nat} (h : o' ≠ o) : zrow f o r o' k = f o' k := by
  unfold zrow
  cases hb : Nat.beq o' o
  · rfl
  · exact absurd (Nat.eq_of_beq_eq_true hb) h
theorem zcpy_or {α : Type} (f g : Nat → α) (sp dp n k : Nat) : (∃ j, zcpy f g sp dp n k = f j) ∨ zcpy f g sp dp n k = g k := by
  unfold zcpy
  cases Nat.ble dp k && Nat.blt k (dp + n)
  · exact Or.inr rfl
  · exact Or.inl ⟨_, rfl⟩
section AM2
variable {S : Nat → Option (Nat × Nat)} {rf : Nat → Nat → List Nat} {B : aB} {W : Nat → Nat → Bool} {WA : Nat → Bool} {E : List Int} {cs : aCs} {T : aT} {al : List (Option aV)} {as xs : List aV} {pc len a b k3 ci m : Nat} {v : Value} {lo : List (Option Value)} {st : List Value} {h : zH} {Ys : List aX} {Y : aX}
theorem at_34i (hW : ∀ o k, WA o = true → W o k = true) (R : aRel S rf (aiv B) E (cs, T, pc, al, as) (pc, lo, st, h)) (h0 : aq34i S B WA len (cs, T, pc, al, as) = some (.inl Ys)) : ∃ y, zs34 len (pc, lo, st, h) = some (.inl y) ∧ aGo S rf (aiv B) W E Ys (pc, lo, st, h) y := by
  obtain ⟨hs, -, hl, hst, hh⟩ := R
  unfold aq34i ago at h0
  dsimp only at h0
  split at h0
  · rename_i an adp l1 asp l0 r
    obtain ⟨u, sr, rfl, ⟨n, rfl, hn⟩, h3⟩ := aSt_cons hst
    obtain ⟨u, sr, rfl, ⟨dp, rfl, hdp⟩, h4⟩ := aSt_cons h3
    obtain ⟨u, sr, rfl, ⟨o1, rfl, ho1⟩, h5⟩ := aSt_cons h4
    obtain ⟨u, sr, rfl, ⟨sp, rfl, hsp⟩, h6⟩ := aSt_cons h5
    obtain ⟨u, sr, rfl, ⟨o0, rfl, ho0⟩, h7⟩ := aSt_cons h6
    generalize hcnd : ((Nat.ble (acat r) 8 && ((decide (0 ≤ (abd cs an).1) && decide ((abd cs an).2 < 100000)) && ((decide (0 ≤ (abd cs asp).1) && decide ((abd cs asp).2 < 100000)) && (decide (0 ≤ (abd cs adp).1) && decide ((abd cs adp).2 < 100000))))) && (aall S l0 (fun o t m => (Nat.beq t 0 && aisA B o) && decide ((abd cs asp).2 + (abd cs an).2 ≤ m)) && aall S l1 (fun o t m => ((Nat.beq t 0 && aisA B o) && decide ((abd cs adp).2 + (abd cs an).2 ≤ m)) && (WA o && l0.all (fun q => decide ((aiv B o 0).1 ≤ (aiv B q 0).1) && decide ((aiv B q 0).2 ≤ (aiv B o 0).2)))))) = cnd at h0
    cases cnd with
    | false => cases h0
    | true =>
      cases h0
      rw [Bool.and_eq_true] at hcnd
      obtain ⟨c1, c2⟩ := hcnd
      rw [Bool.and_eq_true] at c1 c2
      obtain ⟨c1, c3⟩ := c1
      simp only [Bool.and_eq_true, decide_eq_true_eq] at c3
      obtain ⟨t0, m0, g0, f0⟩ := aall_ok hh.1.1 c2.1 ho0
      obtain ⟨t1, m1, g1, f1⟩ := aall_ok hh.1.1 c2.2 ho1
      rw [Bool.and_eq_true, Bool.and_eq_true, decide_eq_true_eq] at f0
      rw [Bool.and_eq_true] at f1
      obtain ⟨f1, f2⟩ := f1
      rw [Bool.and_eq_true, Bool.and_eq_true, decide_eq_true_eq] at f1
      rw [Bool.and_eq_true] at f2
      have f3 := List.all_eq_true.mp f2.2 o0 ho0
      rw [Bool.and_eq_true, decide_eq_true_eq, decide_eq_true_eq] at f3
      have e0 := Nat.eq_of_beq_eq_true f0.1.1
      have e1 := Nat.eq_of_beq_eq_true f1.1.1
      subst e0
      subst e1
      have bn := abd_ok (cs := cs) hs hn
      have bs := abd_ok (cs := cs) hs hsp
      have bd := abd_ok (cs := cs) hs hdp
      have zn := azix (i := n) (by omega)
      have zs := azix (i := sp) (by omega)
      have zd := azix (i := dp) (by omega)
      have k1 : Nat.blt (zix n) 100000 = true := by rw [Nat.blt_eq]; omega
      have k2 : Nat.blt (zix sp) 100000 = true := by rw [Nat.blt_eq]; omega
      have k3 : Nat.blt (zix dp) 100000 = true := by rw [Nat.blt_eq]; omega
      have k4 : Nat.ble (zix sp + zix n) m0 = true := by rw [Nat.ble_eq]; omega
      have k5 : Nat.ble (zix dp + zix n) m1 = true := by rw [Nat.ble_eq]; omega
      have key : zs34 len (pc, lo, .int n :: .int dp :: .ref o1 :: .int sp :: .ref o0 :: sr, h) = some (.inl (pc + len, lo, sr, (h.1, zrow h.2.1 o1 (zcpy (h.2.1 o0) (h.2.1 o1) (zix sp) (zix dp) (zix n)), h.2.2.1, h.2.2.2))) := by
        simp only [zs34]
        rw [g0, g1]
        dsimp only
        rw [k1, k2, k3, k4, k5, acat_ok h7, c1]
        rfl
      refine ⟨_, key, ⟨[], _, List.mem_singleton.mpr rfl, ?_⟩, ?_⟩
      · rw [List.append_nil]
        refine ⟨hs, rfl, hl, h7, ⟨hh.1.1, hh.1.2.1, fun o' k' => ?_⟩, fun o' k' a' g => ?_⟩
        · dsimp only
          by_cases hq : o' = o1
          · subst hq
            rw [zrk_eq]
            rcases zcpy_or (h.2.1 o0) (h.2.1 o') (zix sp) (zix dp) (zix n) k' with ⟨j, e⟩ | e
            · rw [e, aisA_ok f1.1.2 k' 0]
              have w := hh.1.2.2 o0 j
              rw [aisA_ok f0.1.2 j 0] at w
              dsimp only at w
              omega
            · rw [e]
              exact hh.1.2.2 o' k'
          · rw [zrk_ne hq]
            exact hh.1.2.2 o' k'
        · obtain ⟨p1, p2⟩ := adropA_ok g
          dsimp only
          rw [zrk_ne (fun q => p2 (by rw [q]; exact ho1))]
          exact hh.2 o' k' a' p1
      · intro o' k' hw
        dsimp only
        refine zrk_ne (fun q => ?_)
        rw [q, hW o1 k' f2.1] at hw
        cases hw
  · cases h0
theorem at_34l (R : aRel S rf (aiv B) E (cs, T, pc, al, as) (pc, lo, st, h)) (h0 : aq34l S len (cs, T, pc, al, as) = some (.inl Ys)) : ∃ y, zs34 len (pc, lo, st, h) = some (.inl y) ∧ aGo S rf (aiv B) W E Ys (pc, lo, st, h) y := by
  obtain ⟨hs, -, hl, hst, hh⟩ := R
  unfold aq34l ago at h0
  dsimp only at h0
  split at h0
  · rename_i an adp l1 asp l0 r
    obtain ⟨u, sr, rfl, ⟨n, rfl, hn⟩, h3⟩ := aSt_cons hst
    obtain ⟨u, sr, rfl, ⟨dp, rfl, hdp⟩, h4⟩ := aSt_cons h3
    obtain ⟨u, sr, rfl, ⟨o1, rfl, ho1⟩, h5⟩ := aSt_cons h4
    obtain ⟨u, sr, rfl, ⟨sp, rfl, hsp⟩, h6⟩ := aSt_cons h5
    obtain ⟨u, sr, rfl, ⟨o0, rfl, ho0⟩, h7⟩ := aSt_cons h6
    generalize hcnd : ((Nat.ble (acat r) 8 && ((decide (0 ≤ (abd cs an).1) && decide ((abd cs an).2 < 100000)) && ((decide (0 ≤ (abd cs asp).1) && decide ((abd cs asp).2 < 100000)) && (decide (0 ≤ (abd cs adp).1) && decide ((abd cs adp).2 < 100000))))) && (aall S l0 (fun _ t m => Nat.beq t 1 && decide ((abd cs asp).2 + (abd cs an).2 ≤ m)) && aall S l1 (fun _ t m => Nat.beq t 1 && decide ((abd cs adp).2 + (abd cs an).2 ≤ m)))) = cnd at h0
    cases cnd with
    | false => cases h0
    | true =>
      cases h0
      rw [Bool.and_eq_true] at hcnd
      obtain ⟨c1, c2⟩ := hcnd
      rw [Bool.and_eq_true] at c1 c2
      obtain ⟨c1, c3⟩ := c1
      simp only [Bool.and_eq_true, decide_eq_true_eq] at c3
      obtain ⟨t0, m0, g0, f0⟩ := aall_ok hh.1.1 c2.1 ho0
      obtain ⟨t1, m1, g1, f1⟩ := aall_ok hh.1.1 c2.2 ho1
      rw [Bool.and_eq_true, decide_eq_true_eq] at f0 f1
      have e0 := Nat.eq_of_beq_eq_true f0.1
      have e1 := Nat.eq_of_beq_eq_true f1.1
      subst e0
      subst e1
      have bn := abd_ok (cs := cs) hs hn
      have bs := abd_ok (cs := cs) hs hsp
      have bd := abd_ok (cs := cs) hs hdp
      have zn := azix (i := n) (by omega)
      have zs := azix (i := sp) (by omega)
      have zd := azix (i := dp) (by omega)
      have k1 : Nat.blt (zix n) 100000 = true := by rw [Nat.blt_eq]; omega
      have k2 : Nat.blt (zix sp) 100000 = true := by rw [Nat.blt_eq]; omega
      have k3 : Nat.blt (zix dp) 100000 = true := by rw [Nat.blt_eq]; omega
      have k4 : Nat.ble (zix sp + zix n) m0 = true := by rw [Nat.ble_eq]; omega
      have k5 : Nat.ble (zix dp + zix n) m1 = true := by rw [Nat.ble_eq]; omega
      have key : zs34 len (pc, lo, .int n :: .int dp :: .ref o1 :: .int sp :: .ref o0 :: sr, h) = some (.inl (pc + len, lo, sr, (h.1, h.2.1, zrow h.2.2.1 o1 (zcpy (h.2.2.1 o0) (h.2.2.1 o1) (zix sp) (zix dp) (zix n)), h.2.2.2))) := by
        simp only [zs34]
        rw [g0, g1]
        dsimp only
        rw [k1, k2, k3, k4, k5, acat_ok h7, c1]
        rfl
      exact ⟨_, key, ⟨[], _, List.mem_singleton.mpr rfl, by rw [List.append_nil]; exact ⟨hs, rfl, hl, h7, hh⟩⟩, fun _ _ _ => rfl⟩
  · cases h0
def aq34 (S : Nat → Option (Nat × Nat)) (B : aB) (WA : Nat → Bool) (len : Nat) (X : aX) : Option aR := match aq34i S B WA len X with
  | some r => some r
  | none => aq34l S len X
theorem at_34 (hW : ∀ o k, WA o = true → W o k = true) (R : aRel S rf (aiv B) E (cs, T, pc, al, as) (pc, lo, st, h)) (h0 : aq34 S B WA len (cs, T, pc, al, as) = some (.inl Ys)) : ∃ y, zs34 len (pc, lo, st, h) = some (.inl y) ∧ aGo S rf (aiv B) W E Ys (pc, lo, st, h) y := by
  unfold aq34 at h0
  cases hq : aq34i S B WA len (cs, T, pc, al, as) with
  | none =>
    rw [hq] at h0
    exact at_34l R h0
  | some r =>
    rw [hq] at h0
    cases h0
    exact at_34i hW R hq
end AM2
/-! STEPS BY BOUNDS: a reference is written; all together. -/
def aq21r (S : Nat → Option (Nat × Nat)) (rf : Nat → Nat → List Nat) (len a b c : Nat) : aX → Option aR := fun (cs, T, pc, al, st) => match st with
  | .inr m :: .inr l :: r => bif (aall S l (fun o t n => (Nat.beq t (10 + a) && Nat.blt b n) && m.all (fun q => (rf o b).elem q))) && Nat.beq c 1 then ago (cs, T, pc + len, al, r) else none
  | _ => none
theorem at_21r {S : Nat → Option (Nat × Nat)} {rf : Nat → Nat → List Nat} {B : aB} {W : Nat → Nat → Bool} {E : List Int} {cs : aCs} {T : aT} {al : List (Option aV)} {as : List aV} {pc len a b c : Nat} {lo : List (Option Value)} {st : List Value} {h : zH} {Ys : List aX} (R : aRel S rf (aiv B) E (cs, T, pc, al, as) (pc, lo, st, h)) (h0 : aq21r S rf len a b c (cs, T, pc, al, as) = some (.inl Ys)) : ∃ y, zs21 len a b c (pc, lo, st, h) = some (.inl y) ∧ aGo S rf (aiv B) W E Ys (pc, lo, st, h) y := by
  obtain ⟨hs, -, hl, hst, hh⟩ := R
  unfold aq21r ago at h0
  dsimp only at h0
  split at h0
  · rename_i m l r
    obtain ⟨u, sr, rfl, ⟨q, rfl, hq⟩, h3⟩ := aSt_cons hst
    obtain ⟨u, sr, rfl, ⟨o, rfl, ho⟩, h5⟩ := aSt_cons h3
    generalize hcnd : ((aall S l (fun o t n => (Nat.beq t (10 + a) && Nat.blt b n) && m.all (fun q => (rf o b).elem q))) && Nat.beq c 1) = cnd at h0
    cases cnd with
    | false => cases h0
    | true =>
      cases h0
      rw [Bool.and_eq_true] at hcnd
      obtain ⟨t, n, hg, hc⟩ := aall_ok hh.1.1 hcnd.1 ho
      have ec := Nat.eq_of_beq_eq_true hcnd.2
      subst ec
      rw [Bool.and_eq_true] at hc
      have hm := List.elem_iff.mp (List.all_eq_true.mp hc.2 q hq)
      have key : zs21 len a b 1 (pc, lo, .ref q :: .ref o :: sr, h) = some (.inl (pc + len, lo, sr, (h.1, h.2.1, h.2.2.1, zup h.2.2.2 o b (some q)))) := by
        simp only [zs21]
        rw [hg]
        dsimp only
        rw [hc.1]
        rfl
      refine ⟨_, key, ⟨[], _, List.mem_singleton.mpr rfl, ?_⟩, fun _ _ _ => rfl⟩
      rw [List.append_nil]
      refine ⟨hs, rfl, hl, h5, ⟨hh.1.1, fun o' k' hn => ?_, hh.1.2.2⟩, hh.2⟩
      by_cases hz : o' = o ∧ k' = b
      · obtain ⟨rfl, rfl⟩ := hz
        exact ⟨q, by dsimp only; rw [zsame_up], hm⟩
      · obtain ⟨q', g1, g2⟩ := hh.1.2.1 o' k' hn
        exact ⟨q', by dsimp only; rw [zne_up hz]; exact g1, g2⟩
  · cases h0
def aq21x (S : Nat → Option (Nat × Nat)) (rf : Nat → Nat → List Nat) (B : aB) (W : Nat → Nat → Bool) (len a b c : Nat) (X : aX) : Option aR := match aq21 S B W len a b c X with
  | some r => some r
  | none => aq21r S rf len a b c X
theorem at_21x {S : Nat → Option (Nat × Nat)} {rf : Nat → Nat → List Nat} {B : aB} {W : Nat → Nat → Bool} {E : List Int} {cs : aCs} {T : aT} {al : List (Option aV)} {as : List aV} {pc len a b c : Nat} {lo : List (Option Value)} {st : List Value} {h : zH} {Ys : List aX} (R : aRel S rf (aiv B) E (cs, T, pc, al, as) (pc, lo, st, h)) (h0 : aq21x S rf B W len a b c (cs, T, pc, al, as) = some (.inl Ys)) : ∃ y, zs21 len a b c (pc, lo, st, h) = some (.inl y) ∧ aGo S rf (aiv B) W E Ys (pc, lo, st, h) y := by
  unfold aq21x at h0
  cases hq : aq21 S B W len a b c (cs, T, pc, al, as) with
  | none =>
    rw [hq] at h0
    exact at_21r R h0
  | some r =>
    rw [hq] at h0
    cases h0
    exact at_21 R hq
def astepG (S : Nat → Option (Nat × Nat)) (rf : Nat → Nat → List Nat) (B : aB) (W : Nat → Nat → Bool) (WA : Nat → Bool) : zI → aX → Option aR := fun (op, len, a, b, c, v, sw) X => match op with
  | 0 => aq0 len v X
  | 1 => aq1 len a X
  | 2 => aq2 len a X
  | 3 => aq3 len a X
  | 4 => aq4 len a X
  | 5 => aq5 len a X
  | 6 => aq6 len a X
  | 7 => aq7 len b X
  | 8 => aq8 len b X
  | 9 => aq9 len b X
  | 10 => aq10 len X
  | 11 => aq11 len X
  | 12 => aq12 len X
  | 13 => aq13 len X
  | 14 => aq14 len X
  | 15 => aq15 len a b X
  | 16 => aq16 len a b X
  | 17 => aq17 a X
  | 18 => aq18 a sw X
  | 19 => aq19 len a v X
  | 20 => aq20 S rf B len a b c X
  | 21 => aq21x S rf B W len a b c X
  | 22 => aq22 S B len X
  | 23 => aq23 S len X
  | 24 => aq24 S rf len X
  | 25 => aq25 S B W WA len X
  | 26 => aq26 S len X
  | 28 => aq28 S len X
  | 31 => aq31 len b X
  | 34 => aq34 S B WA len X
  | 39 => aq39 len X
  | 40 => aq40 len X
  | 41 => aq41 len X
  | 42 => aq42 len X
  | 43 => aq43 len a X
  | 44 => aq44 len X
  | _ => none
def astepF (S : Nat → Option (Nat × Nat)) (rf : Nat → Nat → List Nat) (B : aB) (W : Nat → Nat → Bool) (WA : Nat → Bool) : zI → aX → Option aR := fun (op, len, a, b, c, v, sw) X => bif Nat.blt op 45 then (bif Nat.blt op 22 then (bif Nat.blt op 11 then (bif Nat.blt op 5 then (bif Nat.blt op 2 then (bif Nat.blt op 1 then aq0 len v X else aq1 len a X) else (bif Nat.blt op 3 then aq2 len a X else (bif Nat.blt op 4 then aq3 len a X else aq4 len a X))) else (bif Nat.blt op 8 then (bif Nat.blt op 6 then aq5 len a X else (bif Nat.blt op 7 then aq6 len a X else aq7 len b X)) else (bif Nat.blt op 9 then aq8 len b X else (bif Nat.blt op 10 then aq9 len b X else aq10 len X)))) else (bif Nat.blt op 16 then (bif Nat.blt op 13 then (bif Nat.blt op 12 then aq11 len X else aq12 len X) else (bif Nat.blt op 14 then aq13 len X else (bif Nat.blt op 15 then aq14 len X else aq15 len a b X))) else (bif Nat.blt op 19 then (bif Nat.blt op 17 then aq16 len a b X else (bif Nat.blt op 18 then aq17 a X else aq18 a sw X)) else (bif Nat.blt op 20 then aq19 len a v X else (bif Nat.blt op 21 then aq20 S rf B len a b c X else aq21x S rf B W len a b c X))))) else (bif Nat.blt op 33 then (bif Nat.blt op 27 then (bif Nat.blt op 24 then (bif Nat.blt op 23 then aq22 S B len X else aq23 S len X) else (bif Nat.blt op 25 then aq24 S rf len X else (bif Nat.blt op 26 then aq25 S B W WA len X else aq26 S len X))) else (bif Nat.blt op 30 then (bif Nat.blt op 28 then none else (bif Nat.blt op 29 then aq28 S len X else none)) else (bif Nat.blt op 31 then none else (bif Nat.blt op 32 then aq31 len b X else none)))) else (bif Nat.blt op 39 then (bif Nat.blt op 36 then (bif Nat.blt op 34 then none else (bif Nat.blt op 35 then aq34 S B WA len X else none)) else none) else (bif Nat.blt op 42 then (bif Nat.blt op 40 then aq39 len X else (bif Nat.blt op 41 then aq40 len X else aq41 len X)) else (bif Nat.blt op 43 then aq42 len X else (bif Nat.blt op 44 then aq43 len a X else aq44 len X)))))) else none
theorem astepF_eq {S : Nat → Option (Nat × Nat)} {rf : Nat → Nat → List Nat} {B : aB} {W : Nat → Nat → Bool} {WA : Nat → Bool} {e : zI} {X : aX} : astepF S rf B W WA e X = astepG S rf B W WA e X := by
  obtain ⟨op, len, a, b, c, v, sw⟩ := e
  match op with
  | 0 => rfl
  | 1 => rfl
  | 2 => rfl
  | 3 => rfl
  | 4 => rfl
  | 5 => rfl
  | 6 => rfl
  | 7 => rfl
  | 8 => rfl
  | 9 => rfl
  | 10 => rfl
  | 11 => rfl
  | 12 => rfl
  | 13 => rfl
  | 14 => rfl
  | 15 => rfl
  | 16 => rfl
  | 17 => rfl
  | 18 => rfl
  | 19 => rfl
  | 20 => rfl
  | 21 => rfl
  | 22 => rfl
  | 23 => rfl
  | 24 => rfl
  | 25 => rfl
  | 26 => rfl
  | 27 => rfl
  | 28 => rfl
  | 29 => rfl
  | 30 => rfl
  | 31 => rfl
  | 32 => rfl
  | 33 => rfl
  | 34 => rfl
  | 35 => rfl
  | 36 => rfl
  | 37 => rfl
  | 38 => rfl
  | 39 => rfl
  | 40 => rfl
  | 41 => rfl
  | 42 => rfl
  | 43 => rfl
  | 44 => rfl
  | n + 45 =>
    unfold astepF
    dsimp only
    rw [show Nat.blt (n + 45) 45 = false by
      cases h : Nat.blt (n + 45) 45
      · rfl
      · rw [Nat.blt_eq] at h
        omega]
    rfl
def astepR : zI → aX → Option aR := fun (op, _, _, _, c, _, _) X => bif Nat.blt op 35 then none else bif Nat.beq op 35 then aq35 c X else bif Nat.beq op 36 then aq36 X else bif Nat.beq op 37 then aq37 X else bif Nat.beq op 38 then aq38 X else none
def astepC (S : Nat → Option (Nat × Nat)) : zI → aX → Option aR := fun (op, len, a, b, c, _, _) X => bif Nat.beq op 32 then aq32 S len a b (c % 4) (c / 4) X else none
section AZ2
variable {S : Nat → Option (Nat × Nat)} {rf : Nat → Nat → List Nat} {B : aB} {W : Nat → Nat → Bool} {WA : Nat → Bool} {E : List Int} {cs : aCs} {T : aT} {al : List (Option aV)} {as xs : List aV} {pc op len a b c m : Nat} {v : Value} {sw : List (Int32 × Nat)} {lo : List (Option Value)} {st : List Value} {h : zH} {Ys : List aX} {Y : aX} {w : Option aV}
theorem astepG_ok (hW : ∀ o k, WA o = true → W o k = true) (R : aRel S rf (aiv B) E (cs, T, pc, al, as) (pc, lo, st, h)) (h0 : astepG S rf B W WA (op, len, a, b, c, v, sw) (cs, T, pc, al, as) = some (.inl Ys)) : ∃ y, zstep (op, len, a, b, c, v, sw) (pc, lo, st, h) = some (.inl y) ∧ aGo S rf (aiv B) W E Ys (pc, lo, st, h) y := by
  match op, h0 with
  | 0, h0 => exact at_0 R h0
  | 1, h0 => exact at_1 R h0
  | 2, h0 => exact at_2 R h0
  | 3, h0 => exact at_3 R h0
  | 4, h0 => exact at_4 R h0
  | 5, h0 => exact at_5 R h0
  | 6, h0 => exact at_6 R h0
  | 7, h0 => exact at_7 R h0
  | 8, h0 => exact at_8 R h0
  | 9, h0 => exact at_9 R h0
  | 10, h0 => exact at_10 R h0
  | 11, h0 => exact at_11 R h0
  | 12, h0 => exact at_12 R h0
  | 13, h0 => exact at_13 R h0
  | 14, h0 => exact at_14 R h0
  | 15, h0 => exact at_15 R h0
  | 16, h0 => exact at_16 R h0
  | 17, h0 => exact at_17 R h0
  | 18, h0 => exact at_18 R h0
  | 19, h0 => exact at_19 R h0
  | 20, h0 => exact at_20 R h0
  | 21, h0 => exact at_21x R h0
  | 22, h0 => exact at_22 R h0
  | 23, h0 => exact at_23 R h0
  | 24, h0 => exact at_24 R h0
  | 25, h0 => exact at_25 hW R h0
  | 26, h0 => exact at_26 R h0
  | 27, h0 => cases h0
  | 28, h0 => exact at_28 R h0
  | 29, h0 => cases h0
  | 30, h0 => cases h0
  | 31, h0 => exact at_31 R h0
  | 32, h0 => cases h0
  | 33, h0 => cases h0
  | 34, h0 => exact at_34 hW R h0
  | 35, h0 => cases h0
  | 36, h0 => cases h0
  | 37, h0 => cases h0
  | 38, h0 => cases h0
  | 39, h0 => exact at_39 R h0
  | 40, h0 => exact at_40 R h0
  | 41, h0 => exact at_41 R h0
  | 42, h0 => exact at_42 R h0
  | 43, h0 => exact at_43 R h0
  | 44, h0 => exact at_44 R h0
  | n + 45, h0 => cases h0
theorem astepR_ok (R : aRel S rf (aiv B) E (cs, T, pc, al, as) (pc, lo, st, h)) (h0 : astepR (op, len, a, b, c, v, sw) (cs, T, pc, al, as) = some (.inr (.inr w))) : ∃ u, zstep (op, len, a, b, c, v, sw) (pc, lo, st, h) = some (.inr (.inr u)) ∧ aRet E u w := by
  unfold astepR at h0
  dsimp only at h0
  cases c0 : Nat.blt op 35
  · rw [c0] at h0
    dsimp only [cond_false] at h0
    cases c1 : Nat.beq op 35
    · rw [c1] at h0
      dsimp only [cond_false] at h0
      cases c2 : Nat.beq op 36
      · rw [c2] at h0
        dsimp only [cond_false] at h0
        cases c3 : Nat.beq op 37
        · rw [c3] at h0
          dsimp only [cond_false] at h0
          cases c4 : Nat.beq op 38
          · rw [c4] at h0
            cases h0
          · rw [c4] at h0
            have e := Nat.eq_of_beq_eq_true c4
            subst e
            exact at_38 R h0
        · rw [c3] at h0
          have e := Nat.eq_of_beq_eq_true c3
          subst e
          exact at_37 R h0
      · rw [c2] at h0
        have e := Nat.eq_of_beq_eq_true c2
        subst e
        exact at_36 R h0
    · rw [c1] at h0
      have e := Nat.eq_of_beq_eq_true c1
      subst e
      exact at_35 R h0
  · rw [c0] at h0
    cases h0
theorem astepC_ok (R : aRel S rf (aiv B) E (cs, T, pc, al, as) (pc, lo, st, h)) (h0 : astepC S (op, len, a, b, c, v, sw) (cs, T, pc, al, as) = some (.inr (.inl (m, xs, Y)))) : ∃ us y, zstep (op, len, a, b, c, v, sw) (pc, lo, st, h) = some (.inr (.inl (m, us, y))) ∧ aSt E us xs ∧ aRel S rf (aiv B) E Y y ∧ y.2.2.2 = h := by
  unfold astepC at h0
  dsimp only at h0
  cases hb : Nat.beq op 32
  · rw [hb] at h0; cases h0
  · rw [hb] at h0
    have e := Nat.eq_of_beq_eq_true hb
    subst e
    exact at_32 R h0
end AZ2
/-! nothing but what W names is written -/
def aFr (W : Nat → Nat → Bool) (h h' : zH) : Prop := (∀ o k, W o k = false → h'.2.1 o k = h.2.1 o k) ∧ (W 1000 0 = false → h'.2.2.1 = h.2.2.1) ∧ h'.1 = h.1
/-- the program's tables, read with fewer steps of the kernel -/
noncomputable def zgf {α : Type} (l : List α) : Nat → Option α := List.rec (motive := fun _ => Nat → Option α) (fun _ => none) (fun a _ ih n => Nat.rec (motive := fun _ => Option α) (some a) (fun m _ => ih m) n) l
theorem zgf_eq {α : Type} : ∀ (l : List α) (n : Nat), zgf l n = zget l n
  | [], _ => rfl
  | _ :: _, 0 => rfl
  | _ :: l, n + 1 => zgf_eq l n
noncomputable def zif2 (mi pc : Nat) : Option zI := match zgf zia (mi / 16) with
  | some g => (match zgf g (mi % 16) with
    | some t => (match zgf t (pc / 16) with
      | some r => (match zgf r (pc % 16) with
        | some e => e
        | _ => none)
      | _ => none)
    | _ => none)
  | _ => none
theorem zif2_eq {mi pc : Nat} : zif2 mi pc = zi mi pc := by
  unfold zif2 zi
  simp only [zgf_eq]
  rfl
/-! WHAT A STEP LEAVES ALONE: shapes; the rows of longs. -/
theorem zk_0 {x y : zC} {len a b c : Nat} {v : Value} {sw : List (Int32 × Nat)} (h : zs0 len v x = some (.inl y)) : y.2.2.2.1 = x.2.2.2.1 ∧ y.2.2.2.2.2.1 = x.2.2.2.2.2.1 := by
  obtain ⟨pc, lo, st, h1⟩ := x
  simp only [zs0, zgo, Bool.cond_eq_ite] at h
  first
  | (cases h; exact ⟨rfl, rfl⟩)
  | (repeat' split at h
     all_goals first
       | (cases h; done)
       | (cases h; exact ⟨rfl, rfl⟩))
theorem zk_1 {x y : zC} {len a b c : Nat} {v : Value} {sw : List (Int32 × Nat)} (h : zs1 len a x = some (.inl y)) : y.2.2.2.1 = x.2.2.2.1 ∧ y.2.2.2.2.2.1 = x.2.2.2.2.2.1 := by
  obtain ⟨pc, lo, st, h1⟩ := x
  simp only [zs1, zgo, Bool.cond_eq_ite] at h
  first
  | (cases h; exact ⟨rfl, rfl⟩)
  | (repeat' split at h
     all_goals first
       | (cases h; done)
       | (cases h; exact ⟨rfl, rfl⟩))
theorem zk_2 {x y : zC} {len a b c : Nat} {v : Value} {sw : List (Int32 × Nat)} (h : zs2 len a x = some (.inl y)) : y.2.2.2.1 = x.2.2.2.1 ∧ y.2.2.2.2.2.1 = x.2.2.2.2.2.1 := by
  obtain ⟨pc, lo, st, h1⟩ := x
  simp only [zs2, zgo, Bool.cond_eq_ite] at h
  first
  | (cases h; exact ⟨rfl, rfl⟩)
  | (repeat' split at h
     all_goals first
       | (cases h; done)
       | (cases h; exact ⟨rfl, rfl⟩))
theorem zk_3 {x y : zC} {len a b c : Nat} {v : Value} {sw : List (Int32 × Nat)} (h : zs3 len a x = some (.inl y)) : y.2.2.2.1 = x.2.2.2.1 ∧ y.2.2.2.2.2.1 = x.2.2.2.2.2.1 := by
  obtain ⟨pc, lo, st, h1⟩ := x
  simp only [zs3, zgo, Bool.cond_eq_ite] at h
  first
  | (cases h; exact ⟨rfl, rfl⟩)
  | (repeat' split at h
     all_goals first
       | (cases h; done)
       | (cases h; exact ⟨rfl, rfl⟩))
theorem zk_4 {x y : zC} {len a b c : Nat} {v : Value} {sw : List (Int32 × Nat)} (h : zs4 len a x = some (.inl y)) : y.2.2.2.1 = x.2.2.2.1 ∧ y.2.2.2.2.2.1 = x.2.2.2.2.2.1 := by
  obtain ⟨pc, lo, st, h1⟩ := x
  simp only [zs4, zgo, Bool.cond_eq_ite] at h
  first
  | (cases h; exact ⟨rfl, rfl⟩)
  | (repeat' split at h
     all_goals first
       | (cases h; done)
       | (cases h; exact ⟨rfl, rfl⟩))
theorem zk_5 {x y : zC} {len a b c : Nat} {v : Value} {sw : List (Int32 × Nat)} (h : zs5 len a x = some (.inl y)) : y.2.2.2.1 = x.2.2.2.1 ∧ y.2.2.2.2.2.1 = x.2.2.2.2.2.1 := by
  obtain ⟨pc, lo, st, h1⟩ := x
  simp only [zs5, zgo, Bool.cond_eq_ite] at h
  first
  | (cases h; exact ⟨rfl, rfl⟩)
  | (repeat' split at h
     all_goals first
       | (cases h; done)
       | (cases h; exact ⟨rfl, rfl⟩))
theorem zk_6 {x y : zC} {len a b c : Nat} {v : Value} {sw : List (Int32 × Nat)} (h : zs6 len a x = some (.inl y)) : y.2.2.2.1 = x.2.2.2.1 ∧ y.2.2.2.2.2.1 = x.2.2.2.2.2.1 := by
  obtain ⟨pc, lo, st, h1⟩ := x
  simp only [zs6, zgo, Bool.cond_eq_ite] at h
  first
  | (cases h; exact ⟨rfl, rfl⟩)
  | (repeat' split at h
     all_goals first
       | (cases h; done)
       | (cases h; exact ⟨rfl, rfl⟩))
theorem zk_7 {x y : zC} {len a b c : Nat} {v : Value} {sw : List (Int32 × Nat)} (h : zs7 len b x = some (.inl y)) : y.2.2.2.1 = x.2.2.2.1 ∧ y.2.2.2.2.2.1 = x.2.2.2.2.2.1 := by
  obtain ⟨pc, lo, st, h1⟩ := x
  simp only [zs7, zgo, Bool.cond_eq_ite] at h
  first
  | (cases h; exact ⟨rfl, rfl⟩)
  | (repeat' split at h
     all_goals first
       | (cases h; done)
       | (cases h; exact ⟨rfl, rfl⟩))
theorem zk_8 {x y : zC} {len a b c : Nat} {v : Value} {sw : List (Int32 × Nat)} (h : zs8 len b x = some (.inl y)) : y.2.2.2.1 = x.2.2.2.1 ∧ y.2.2.2.2.2.1 = x.2.2.2.2.2.1 := by
  obtain ⟨pc, lo, st, h1⟩ := x
  simp only [zs8, zgo, Bool.cond_eq_ite] at h
  first
  | (cases h; exact ⟨rfl, rfl⟩)
  | (repeat' split at h
     all_goals first
       | (cases h; done)
       | (cases h; exact ⟨rfl, rfl⟩))
theorem zk_9 {x y : zC} {len a b c : Nat} {v : Value} {sw : List (Int32 × Nat)} (h : zs9 len b x = some (.inl y)) : y.2.2.2.1 = x.2.2.2.1 ∧ y.2.2.2.2.2.1 = x.2.2.2.2.2.1 := by
  obtain ⟨pc, lo, st, h1⟩ := x
  simp only [zs9, zgo, Bool.cond_eq_ite] at h
  first
  | (cases h; exact ⟨rfl, rfl⟩)
  | (repeat' split at h
     all_goals first
       | (cases h; done)
       | (cases h; exact ⟨rfl, rfl⟩))
theorem zk_10 {x y : zC} {len a b c : Nat} {v : Value} {sw : List (Int32 × Nat)} (h : zs10 len x = some (.inl y)) : y.2.2.2.1 = x.2.2.2.1 ∧ y.2.2.2.2.2.1 = x.2.2.2.2.2.1 := by
  obtain ⟨pc, lo, st, h1⟩ := x
  simp only [zs10, zgo, Bool.cond_eq_ite] at h
  first
  | (cases h; exact ⟨rfl, rfl⟩)
  | (repeat' split at h
     all_goals first
       | (cases h; done)
       | (cases h; exact ⟨rfl, rfl⟩))
theorem zk_11 {x y : zC} {len a b c : Nat} {v : Value} {sw : List (Int32 × Nat)} (h : zs11 len x = some (.inl y)) : y.2.2.2.1 = x.2.2.2.1 ∧ y.2.2.2.2.2.1 = x.2.2.2.2.2.1 := by
  obtain ⟨pc, lo, st, h1⟩ := x
  simp only [zs11, zgo, Bool.cond_eq_ite] at h
  first
  | (cases h; exact ⟨rfl, rfl⟩)
  | (repeat' split at h
     all_goals first
       | (cases h; done)
       | (cases h; exact ⟨rfl, rfl⟩))
theorem zk_12 {x y : zC} {len a b c : Nat} {v : Value} {sw : List (Int32 × Nat)} (h : zs12 len b x = some (.inl y)) : y.2.2.2.1 = x.2.2.2.1 ∧ y.2.2.2.2.2.1 = x.2.2.2.2.2.1 := by
  obtain ⟨pc, lo, st, h1⟩ := x
  simp only [zs12, zgo, Bool.cond_eq_ite] at h
  first
  | (cases h; exact ⟨rfl, rfl⟩)
  | (repeat' split at h
     all_goals first
       | (cases h; done)
       | (cases h; exact ⟨rfl, rfl⟩))
theorem zk_13 {x y : zC} {len a b c : Nat} {v : Value} {sw : List (Int32 × Nat)} (h : zs13 len x = some (.inl y)) : y.2.2.2.1 = x.2.2.2.1 ∧ y.2.2.2.2.2.1 = x.2.2.2.2.2.1 := by
  obtain ⟨pc, lo, st, h1⟩ := x
  simp only [zs13, zgo, Bool.cond_eq_ite] at h
  first
  | (cases h; exact ⟨rfl, rfl⟩)
  | (repeat' split at h
     all_goals first
       | (cases h; done)
       | (cases h; exact ⟨rfl, rfl⟩))
theorem zk_14 {x y : zC} {len a b c : Nat} {v : Value} {sw : List (Int32 × Nat)} (h : zs14 len x = some (.inl y)) : y.2.2.2.1 = x.2.2.2.1 ∧ y.2.2.2.2.2.1 = x.2.2.2.2.2.1 := by
  obtain ⟨pc, lo, st, h1⟩ := x
  simp only [zs14, zgo, Bool.cond_eq_ite] at h
  first
  | (cases h; exact ⟨rfl, rfl⟩)
  | (repeat' split at h
     all_goals first
       | (cases h; done)
       | (cases h; exact ⟨rfl, rfl⟩))
theorem zk_15 {x y : zC} {len a b c : Nat} {v : Value} {sw : List (Int32 × Nat)} (h : zs15 len a b x = some (.inl y)) : y.2.2.2.1 = x.2.2.2.1 ∧ y.2.2.2.2.2.1 = x.2.2.2.2.2.1 := by
  obtain ⟨pc, lo, st, h1⟩ := x
  simp only [zs15, zgo, Bool.cond_eq_ite] at h
  first
  | (cases h; exact ⟨rfl, rfl⟩)
  | (repeat' split at h
     all_goals first
       | (cases h; done)
       | (cases h; exact ⟨rfl, rfl⟩))
theorem zk_16 {x y : zC} {len a b c : Nat} {v : Value} {sw : List (Int32 × Nat)} (h : zs16 len a b x = some (.inl y)) : y.2.2.2.1 = x.2.2.2.1 ∧ y.2.2.2.2.2.1 = x.2.2.2.2.2.1 := by
  obtain ⟨pc, lo, st, h1⟩ := x
  simp only [zs16, zgo, Bool.cond_eq_ite] at h
  first
  | (cases h; exact ⟨rfl, rfl⟩)
  | (repeat' split at h
     all_goals first
       | (cases h; done)
       | (cases h; exact ⟨rfl, rfl⟩))
theorem zk_17 {x y : zC} {len a b c : Nat} {v : Value} {sw : List (Int32 × Nat)} (h : zs17 a x = some (.inl y)) : y.2.2.2.1 = x.2.2.2.1 ∧ y.2.2.2.2.2.1 = x.2.2.2.2.2.1 := by
  obtain ⟨pc, lo, st, h1⟩ := x
  simp only [zs17, zgo, Bool.cond_eq_ite] at h
  first
  | (cases h; exact ⟨rfl, rfl⟩)
  | (repeat' split at h
     all_goals first
       | (cases h; done)
       | (cases h; exact ⟨rfl, rfl⟩))
theorem zk_18 {x y : zC} {len a b c : Nat} {v : Value} {sw : List (Int32 × Nat)} (h : zs18 a sw x = some (.inl y)) : y.2.2.2.1 = x.2.2.2.1 ∧ y.2.2.2.2.2.1 = x.2.2.2.2.2.1 := by
  obtain ⟨pc, lo, st, h1⟩ := x
  simp only [zs18, zgo, Bool.cond_eq_ite] at h
  first
  | (cases h; exact ⟨rfl, rfl⟩)
  | (repeat' split at h
     all_goals first
       | (cases h; done)
       | (cases h; exact ⟨rfl, rfl⟩))
theorem zk_19 {x y : zC} {len a b c : Nat} {v : Value} {sw : List (Int32 × Nat)} (h : zs19 len a v x = some (.inl y)) : y.2.2.2.1 = x.2.2.2.1 ∧ y.2.2.2.2.2.1 = x.2.2.2.2.2.1 := by
  obtain ⟨pc, lo, st, h1⟩ := x
  simp only [zs19, zgo, Bool.cond_eq_ite] at h
  first
  | (cases h; exact ⟨rfl, rfl⟩)
  | (repeat' split at h
     all_goals first
       | (cases h; done)
       | (cases h; exact ⟨rfl, rfl⟩))
theorem zk_20 {x y : zC} {len a b c : Nat} {v : Value} {sw : List (Int32 × Nat)} (h : zs20 len a b c x = some (.inl y)) : y.2.2.2.1 = x.2.2.2.1 ∧ y.2.2.2.2.2.1 = x.2.2.2.2.2.1 := by
  obtain ⟨pc, lo, st, h1⟩ := x
  simp only [zs20, zgo, Bool.cond_eq_ite] at h
  first
  | (cases h; exact ⟨rfl, rfl⟩)
  | (repeat' split at h
     all_goals first
       | (cases h; done)
       | (cases h; exact ⟨rfl, rfl⟩))
theorem zk_21 {x y : zC} {len a b c : Nat} {v : Value} {sw : List (Int32 × Nat)} (h : zs21 len a b c x = some (.inl y)) : y.2.2.2.1 = x.2.2.2.1 ∧ y.2.2.2.2.2.1 = x.2.2.2.2.2.1 := by
  obtain ⟨pc, lo, st, h1⟩ := x
  simp only [zs21, zgo, Bool.cond_eq_ite] at h
  first
  | (cases h; exact ⟨rfl, rfl⟩)
  | (repeat' split at h
     all_goals first
       | (cases h; done)
       | (cases h; exact ⟨rfl, rfl⟩))
theorem zk_22 {x y : zC} {len a b c : Nat} {v : Value} {sw : List (Int32 × Nat)} (h : zs22 len x = some (.inl y)) : y.2.2.2.1 = x.2.2.2.1 ∧ y.2.2.2.2.2.1 = x.2.2.2.2.2.1 := by
  obtain ⟨pc, lo, st, h1⟩ := x
  simp only [zs22, zgo, Bool.cond_eq_ite] at h
  first
  | (cases h; exact ⟨rfl, rfl⟩)
  | (repeat' split at h
     all_goals first
       | (cases h; done)
       | (cases h; exact ⟨rfl, rfl⟩))
theorem zk_23 {x y : zC} {len a b c : Nat} {v : Value} {sw : List (Int32 × Nat)} (h : zs23 len x = some (.inl y)) : y.2.2.2.1 = x.2.2.2.1 ∧ y.2.2.2.2.2.1 = x.2.2.2.2.2.1 := by
  obtain ⟨pc, lo, st, h1⟩ := x
  simp only [zs23, zgo, Bool.cond_eq_ite] at h
  first
  | (cases h; exact ⟨rfl, rfl⟩)
  | (repeat' split at h
     all_goals first
       | (cases h; done)
       | (cases h; exact ⟨rfl, rfl⟩))
theorem zk_24 {x y : zC} {len a b c : Nat} {v : Value} {sw : List (Int32 × Nat)} (h : zs24 len x = some (.inl y)) : y.2.2.2.1 = x.2.2.2.1 ∧ y.2.2.2.2.2.1 = x.2.2.2.2.2.1 := by
  obtain ⟨pc, lo, st, h1⟩ := x
  simp only [zs24, zgo, Bool.cond_eq_ite] at h
  first
  | (cases h; exact ⟨rfl, rfl⟩)
  | (repeat' split at h
     all_goals first
       | (cases h; done)
       | (cases h; exact ⟨rfl, rfl⟩))
theorem zk_25 {x y : zC} {len a b c : Nat} {v : Value} {sw : List (Int32 × Nat)} (h : zs25 len x = some (.inl y)) : y.2.2.2.1 = x.2.2.2.1 ∧ y.2.2.2.2.2.1 = x.2.2.2.2.2.1 := by
  obtain ⟨pc, lo, st, h1⟩ := x
  simp only [zs25, zgo, Bool.cond_eq_ite] at h
  first
  | (cases h; exact ⟨rfl, rfl⟩)
  | (repeat' split at h
     all_goals first
       | (cases h; done)
       | (cases h; exact ⟨rfl, rfl⟩))
theorem zk_26 {x y : zC} {len a b c : Nat} {v : Value} {sw : List (Int32 × Nat)} (h : zs26 len x = some (.inl y)) : y.2.2.2.1 = x.2.2.2.1 := by
  obtain ⟨pc, lo, st, h1⟩ := x
  simp only [zs26, zgo, Bool.cond_eq_ite] at h
  first
  | (cases h; exact rfl)
  | (repeat' split at h
     all_goals first
       | (cases h; done)
       | (cases h; exact rfl))
theorem zk_28 {x y : zC} {len a b c : Nat} {v : Value} {sw : List (Int32 × Nat)} (h : zs28 len x = some (.inl y)) : y.2.2.2.1 = x.2.2.2.1 ∧ y.2.2.2.2.2.1 = x.2.2.2.2.2.1 := by
  obtain ⟨pc, lo, st, h1⟩ := x
  simp only [zs28, zgo, Bool.cond_eq_ite] at h
  first
  | (cases h; exact ⟨rfl, rfl⟩)
  | (repeat' split at h
     all_goals first
       | (cases h; done)
       | (cases h; exact ⟨rfl, rfl⟩))
theorem zk_31 {x y : zC} {len a b c : Nat} {v : Value} {sw : List (Int32 × Nat)} (h : zs31 len b x = some (.inl y)) : y.2.2.2.1 = x.2.2.2.1 ∧ y.2.2.2.2.2.1 = x.2.2.2.2.2.1 := by
  obtain ⟨pc, lo, st, h1⟩ := x
  simp only [zs31, zgo, Bool.cond_eq_ite] at h
  first
  | (cases h; exact ⟨rfl, rfl⟩)
  | (repeat' split at h
     all_goals first
       | (cases h; done)
       | (cases h; exact ⟨rfl, rfl⟩))
theorem zk_34 {x y : zC} {len a b c : Nat} {v : Value} {sw : List (Int32 × Nat)} (h : zs34 len x = some (.inl y)) : y.2.2.2.1 = x.2.2.2.1 := by
  obtain ⟨pc, lo, st, h1⟩ := x
  simp only [zs34, zgo, Bool.cond_eq_ite] at h
  first
  | (cases h; exact rfl)
  | (repeat' split at h
     all_goals first
       | (cases h; done)
       | (cases h; exact rfl))
theorem zk_39 {x y : zC} {len a b c : Nat} {v : Value} {sw : List (Int32 × Nat)} (h : zs39 len x = some (.inl y)) : y.2.2.2.1 = x.2.2.2.1 ∧ y.2.2.2.2.2.1 = x.2.2.2.2.2.1 := by
  obtain ⟨pc, lo, st, h1⟩ := x
  simp only [zs39, zgo, Bool.cond_eq_ite] at h
  first
  | (cases h; exact ⟨rfl, rfl⟩)
  | (repeat' split at h
     all_goals first
       | (cases h; done)
       | (cases h; exact ⟨rfl, rfl⟩))
theorem zk_40 {x y : zC} {len a b c : Nat} {v : Value} {sw : List (Int32 × Nat)} (h : zs40 len x = some (.inl y)) : y.2.2.2.1 = x.2.2.2.1 ∧ y.2.2.2.2.2.1 = x.2.2.2.2.2.1 := by
  obtain ⟨pc, lo, st, h1⟩ := x
  simp only [zs40, zgo, Bool.cond_eq_ite] at h
  first
  | (cases h; exact ⟨rfl, rfl⟩)
  | (repeat' split at h
     all_goals first
       | (cases h; done)
       | (cases h; exact ⟨rfl, rfl⟩))
theorem zk_41 {x y : zC} {len a b c : Nat} {v : Value} {sw : List (Int32 × Nat)} (h : zs41 len x = some (.inl y)) : y.2.2.2.1 = x.2.2.2.1 ∧ y.2.2.2.2.2.1 = x.2.2.2.2.2.1 := by
  obtain ⟨pc, lo, st, h1⟩ := x
  simp only [zs41, zgo, Bool.cond_eq_ite] at h
  first
  | (cases h; exact ⟨rfl, rfl⟩)
  | (repeat' split at h
     all_goals first
       | (cases h; done)
       | (cases h; exact ⟨rfl, rfl⟩))
theorem zk_42 {x y : zC} {len a b c : Nat} {v : Value} {sw : List (Int32 × Nat)} (h : zs42 len x = some (.inl y)) : y.2.2.2.1 = x.2.2.2.1 ∧ y.2.2.2.2.2.1 = x.2.2.2.2.2.1 := by
  obtain ⟨pc, lo, st, h1⟩ := x
  simp only [zs42, zgo, Bool.cond_eq_ite] at h
  first
  | (cases h; exact ⟨rfl, rfl⟩)
  | (repeat' split at h
     all_goals first
       | (cases h; done)
       | (cases h; exact ⟨rfl, rfl⟩))
theorem zk_43 {x y : zC} {len a b c : Nat} {v : Value} {sw : List (Int32 × Nat)} (h : zs43 len a x = some (.inl y)) : y.2.2.2.1 = x.2.2.2.1 ∧ y.2.2.2.2.2.1 = x.2.2.2.2.2.1 := by
  obtain ⟨pc, lo, st, h1⟩ := x
  simp only [zs43, zgo, Bool.cond_eq_ite] at h
  first
  | (cases h; exact ⟨rfl, rfl⟩)
  | (repeat' split at h
     all_goals first
       | (cases h; done)
       | (cases h; exact ⟨rfl, rfl⟩))
theorem zk_44 {x y : zC} {len a b c : Nat} {v : Value} {sw : List (Int32 × Nat)} (h : zs44 len x = some (.inl y)) : y.2.2.2.1 = x.2.2.2.1 ∧ y.2.2.2.2.2.1 = x.2.2.2.2.2.1 := by
  obtain ⟨pc, lo, st, h1⟩ := x
  simp only [zs44, zgo, Bool.cond_eq_ite] at h
  first
  | (cases h; exact ⟨rfl, rfl⟩)
  | (repeat' split at h
     all_goals first
       | (cases h; done)
       | (cases h; exact ⟨rfl, rfl⟩))
theorem zkeep {S : Nat → Option (Nat × Nat)} {rf : Nat → Nat → List Nat} {B : aB} {W : Nat → Nat → Bool} {WA : Nat → Bool} {op len a b c : Nat} {v : Value} {sw : List (Int32 × Nat)} {X : aX} {Ys : List aX} {x y : zC} (hg : astepG S rf B W WA (op, len, a, b, c, v, sw) X = some (.inl Ys)) (hz : zstep (op, len, a, b, c, v, sw) x = some (.inl y)) : y.2.2.2.1 = x.2.2.2.1 ∧ ((Nat.beq op 26 || Nat.beq op 34) = false → y.2.2.2.2.2.1 = x.2.2.2.2.2.1) := by
  match op, hg, hz with
  | 0, hg, hz => exact ⟨(zk_0 (len := len) (a := a) (b := b) (c := c) (v := v) (sw := sw) hz).1, fun _ => (zk_0 (len := len) (a := a) (b := b) (c := c) (v := v) (sw := sw) hz).2⟩
  | 1, hg, hz => exact ⟨(zk_1 (len := len) (a := a) (b := b) (c := c) (v := v) (sw := sw) hz).1, fun _ => (zk_1 (len := len) (a := a) (b := b) (c := c) (v := v) (sw := sw) hz).2⟩
  | 2, hg, hz => exact ⟨(zk_2 (len := len) (a := a) (b := b) (c := c) (v := v) (sw := sw) hz).1, fun _ => (zk_2 (len := len) (a := a) (b := b) (c := c) (v := v) (sw := sw) hz).2⟩
  | 3, hg, hz => exact ⟨(zk_3 (len := len) (a := a) (b := b) (c := c) (v := v) (sw := sw) hz).1, fun _ => (zk_3 (len := len) (a := a) (b := b) (c := c) (v := v) (sw := sw) hz).2⟩
  | 4, hg, hz => exact ⟨(zk_4 (len := len) (a := a) (b := b) (c := c) (v := v) (sw := sw) hz).1, fun _ => (zk_4 (len := len) (a := a) (b := b) (c := c) (v := v) (sw := sw) hz).2⟩
  | 5, hg, hz => exact ⟨(zk_5 (len := len) (a := a) (b := b) (c := c) (v := v) (sw := sw) hz).1, fun _ => (zk_5 (len := len) (a := a) (b := b) (c := c) (v := v) (sw := sw) hz).2⟩
  | 6, hg, hz => exact ⟨(zk_6 (len := len) (a := a) (b := b) (c := c) (v := v) (sw := sw) hz).1, fun _ => (zk_6 (len := len) (a := a) (b := b) (c := c) (v := v) (sw := sw) hz).2⟩
  | 7, hg, hz => exact ⟨(zk_7 (len := len) (a := a) (b := b) (c := c) (v := v) (sw := sw) hz).1, fun _ => (zk_7 (len := len) (a := a) (b := b) (c := c) (v := v) (sw := sw) hz).2⟩
  | 8, hg, hz => exact ⟨(zk_8 (len := len) (a := a) (b := b) (c := c) (v := v) (sw := sw) hz).1, fun _ => (zk_8 (len := len) (a := a) (b := b) (c := c) (v := v) (sw := sw) hz).2⟩
  | 9, hg, hz => exact ⟨(zk_9 (len := len) (a := a) (b := b) (c := c) (v := v) (sw := sw) hz).1, fun _ => (zk_9 (len := len) (a := a) (b := b) (c := c) (v := v) (sw := sw) hz).2⟩
  | 10, hg, hz => exact ⟨(zk_10 (len := len) (a := a) (b := b) (c := c) (v := v) (sw := sw) hz).1, fun _ => (zk_10 (len := len) (a := a) (b := b) (c := c) (v := v) (sw := sw) hz).2⟩
  | 11, hg, hz => exact ⟨(zk_11 (len := len) (a := a) (b := b) (c := c) (v := v) (sw := sw) hz).1, fun _ => (zk_11 (len := len) (a := a) (b := b) (c := c) (v := v) (sw := sw) hz).2⟩
  | 12, hg, hz => exact ⟨(zk_12 (len := len) (a := a) (b := b) (c := c) (v := v) (sw := sw) hz).1, fun _ => (zk_12 (len := len) (a := a) (b := b) (c := c) (v := v) (sw := sw) hz).2⟩
  | 13, hg, hz => exact ⟨(zk_13 (len := len) (a := a) (b := b) (c := c) (v := v) (sw := sw) hz).1, fun _ => (zk_13 (len := len) (a := a) (b := b) (c := c) (v := v) (sw := sw) hz).2⟩
  | 14, hg, hz => exact ⟨(zk_14 (len := len) (a := a) (b := b) (c := c) (v := v) (sw := sw) hz).1, fun _ => (zk_14 (len := len) (a := a) (b := b) (c := c) (v := v) (sw := sw) hz).2⟩
  | 15, hg, hz => exact ⟨(zk_15 (len := len) (a := a) (b := b) (c := c) (v := v) (sw := sw) hz).1, fun _ => (zk_15 (len := len) (a := a) (b := b) (c := c) (v := v) (sw := sw) hz).2⟩
  | 16, hg, hz => exact ⟨(zk_16 (len := len) (a := a) (b := b) (c := c) (v := v) (sw := sw) hz).1, fun _ => (zk_16 (len := len) (a := a) (b := b) (c := c) (v := v) (sw := sw) hz).2⟩
  | 17, hg, hz => exact ⟨(zk_17 (len := len) (a := a) (b := b) (c := c) (v := v) (sw := sw) hz).1, fun _ => (zk_17 (len := len) (a := a) (b := b) (c := c) (v := v) (sw := sw) hz).2⟩
  | 18, hg, hz => exact ⟨(zk_18 (len := len) (a := a) (b := b) (c := c) (v := v) (sw := sw) hz).1, fun _ => (zk_18 (len := len) (a := a) (b := b) (c := c) (v := v) (sw := sw) hz).2⟩
  | 19, hg, hz => exact ⟨(zk_19 (len := len) (a := a) (b := b) (c := c) (v := v) (sw := sw) hz).1, fun _ => (zk_19 (len := len) (a := a) (b := b) (c := c) (v := v) (sw := sw) hz).2⟩
  | 20, hg, hz => exact ⟨(zk_20 (len := len) (a := a) (b := b) (c := c) (v := v) (sw := sw) hz).1, fun _ => (zk_20 (len := len) (a := a) (b := b) (c := c) (v := v) (sw := sw) hz).2⟩
  | 21, hg, hz => exact ⟨(zk_21 (len := len) (a := a) (b := b) (c := c) (v := v) (sw := sw) hz).1, fun _ => (zk_21 (len := len) (a := a) (b := b) (c := c) (v := v) (sw := sw) hz).2⟩
  | 22, hg, hz => exact ⟨(zk_22 (len := len) (a := a) (b := b) (c := c) (v := v) (sw := sw) hz).1, fun _ => (zk_22 (len := len) (a := a) (b := b) (c := c) (v := v) (sw := sw) hz).2⟩
  | 23, hg, hz => exact ⟨(zk_23 (len := len) (a := a) (b := b) (c := c) (v := v) (sw := sw) hz).1, fun _ => (zk_23 (len := len) (a := a) (b := b) (c := c) (v := v) (sw := sw) hz).2⟩
  | 24, hg, hz => exact ⟨(zk_24 (len := len) (a := a) (b := b) (c := c) (v := v) (sw := sw) hz).1, fun _ => (zk_24 (len := len) (a := a) (b := b) (c := c) (v := v) (sw := sw) hz).2⟩
  | 25, hg, hz => exact ⟨(zk_25 (len := len) (a := a) (b := b) (c := c) (v := v) (sw := sw) hz).1, fun _ => (zk_25 (len := len) (a := a) (b := b) (c := c) (v := v) (sw := sw) hz).2⟩
  | 26, hg, hz => exact ⟨zk_26 (a := a) (b := b) (c := c) (v := v) (sw := sw) hz, fun q => by cases q⟩
  | 27, hg, hz => cases hg
  | 28, hg, hz => exact ⟨(zk_28 (len := len) (a := a) (b := b) (c := c) (v := v) (sw := sw) hz).1, fun _ => (zk_28 (len := len) (a := a) (b := b) (c := c) (v := v) (sw := sw) hz).2⟩
  | 29, hg, hz => cases hg
  | 30, hg, hz => cases hg
  | 31, hg, hz => exact ⟨(zk_31 (len := len) (a := a) (b := b) (c := c) (v := v) (sw := sw) hz).1, fun _ => (zk_31 (len := len) (a := a) (b := b) (c := c) (v := v) (sw := sw) hz).2⟩
  | 32, hg, hz => cases hg
  | 33, hg, hz => cases hg
  | 34, hg, hz => exact ⟨zk_34 (a := a) (b := b) (c := c) (v := v) (sw := sw) hz, fun q => by cases q⟩
  | 35, hg, hz => cases hg
  | 36, hg, hz => cases hg
  | 37, hg, hz => cases hg
  | 38, hg, hz => cases hg
  | 39, hg, hz => exact ⟨(zk_39 (len := len) (a := a) (b := b) (c := c) (v := v) (sw := sw) hz).1, fun _ => (zk_39 (len := len) (a := a) (b := b) (c := c) (v := v) (sw := sw) hz).2⟩
  | 40, hg, hz => exact ⟨(zk_40 (len := len) (a := a) (b := b) (c := c) (v := v) (sw := sw) hz).1, fun _ => (zk_40 (len := len) (a := a) (b := b) (c := c) (v := v) (sw := sw) hz).2⟩
  | 41, hg, hz => exact ⟨(zk_41 (len := len) (a := a) (b := b) (c := c) (v := v) (sw := sw) hz).1, fun _ => (zk_41 (len := len) (a := a) (b := b) (c := c) (v := v) (sw := sw) hz).2⟩
  | 42, hg, hz => exact ⟨(zk_42 (len := len) (a := a) (b := b) (c := c) (v := v) (sw := sw) hz).1, fun _ => (zk_42 (len := len) (a := a) (b := b) (c := c) (v := v) (sw := sw) hz).2⟩
  | 43, hg, hz => exact ⟨(zk_43 (len := len) (a := a) (b := b) (c := c) (v := v) (sw := sw) hz).1, fun _ => (zk_43 (len := len) (a := a) (b := b) (c := c) (v := v) (sw := sw) hz).2⟩
  | 44, hg, hz => exact ⟨(zk_44 (len := len) (a := a) (b := b) (c := c) (v := v) (sw := sw) hz).1, fun _ => (zk_44 (len := len) (a := a) (b := b) (c := c) (v := v) (sw := sw) hz).2⟩
  | n + 45, hg, hz => cases hg
/-! The program's tables: the method by a tree. -/
def zjm (mi : Nat) : Option (List (List (Option zI))) := bif Nat.ble 242 mi then none else (bif Nat.ble 121 mi then (bif Nat.ble 181 mi then (bif Nat.ble 211 mi then (bif Nat.ble 226 mi then (bif Nat.ble 234 mi then (bif Nat.ble 238 mi then (bif Nat.ble 240 mi then (bif Nat.ble 241 mi then some zi_241 else some zi_240) else (bif Nat.ble 239 mi then some zi_239 else some zi_238)) else (bif Nat.ble 236 mi then (bif Nat.ble 237 mi then some zi_237 else some zi_236) else (bif Nat.ble 235 mi then some zi_235 else some zi_234))) else (bif Nat.ble 230 mi then (bif Nat.ble 232 mi then (bif Nat.ble 233 mi then some zi_233 else some zi_232) else (bif Nat.ble 231 mi then some zi_231 else some zi_230)) else (bif Nat.ble 228 mi then (bif Nat.ble 229 mi then some zi_229 else some zi_228) else (bif Nat.ble 227 mi then some zi_227 else some zi_226)))) else (bif Nat.ble 218 mi then (bif Nat.ble 222 mi then (bif Nat.ble 224 mi then (bif Nat.ble 225 mi then some zi_225 else some zi_224) else (bif Nat.ble 223 mi then some zi_223 else some zi_222)) else (bif Nat.ble 220 mi then (bif Nat.ble 221 mi then some zi_221 else some zi_220) else (bif Nat.ble 219 mi then some zi_219 else some zi_218))) else (bif Nat.ble 214 mi then (bif Nat.ble 216 mi then (bif Nat.ble 217 mi then some zi_217 else some zi_216) else (bif Nat.ble 215 mi then some zi_215 else some zi_214)) else (bif Nat.ble 212 mi then (bif Nat.ble 213 mi then some zi_213 else some zi_212) else some zi_211)))) else (bif Nat.ble 196 mi then (bif Nat.ble 203 mi then (bif Nat.ble 207 mi then (bif Nat.ble 209 mi then (bif Nat.ble 210 mi then some zi_210 else some zi_209) else (bif Nat.ble 208 mi then some zi_208 else some zi_207)) else (bif Nat.ble 205 mi then (bif Nat.ble 206 mi then some zi_206 else some zi_205) else (bif Nat.ble 204 mi then some zi_204 else some zi_203))) else (bif Nat.ble 199 mi then (bif Nat.ble 201 mi then (bif Nat.ble 202 mi then some zi_202 else some zi_201) else (bif Nat.ble 200 mi then some zi_200 else some zi_199)) else (bif Nat.ble 197 mi then (bif Nat.ble 198 mi then some zi_198 else some zi_197) else some zi_196))) else (bif Nat.ble 188 mi then (bif Nat.ble 192 mi then (bif Nat.ble 194 mi then (bif Nat.ble 195 mi then some zi_195 else some zi_194) else (bif Nat.ble 193 mi then some zi_193 else some zi_192)) else (bif Nat.ble 190 mi then (bif Nat.ble 191 mi then some zi_191 else some zi_190) else (bif Nat.ble 189 mi then some zi_189 else some zi_188))) else (bif Nat.ble 184 mi then (bif Nat.ble 186 mi then (bif Nat.ble 187 mi then some zi_187 else some zi_186) else (bif Nat.ble 185 mi then some zi_185 else some zi_184)) else (bif Nat.ble 182 mi then (bif Nat.ble 183 mi then some zi_183 else some zi_182) else some zi_181))))) else (bif Nat.ble 151 mi then (bif Nat.ble 166 mi then (bif Nat.ble 173 mi then (bif Nat.ble 177 mi then (bif Nat.ble 179 mi then (bif Nat.ble 180 mi then some zi_180 else some zi_179) else (bif Nat.ble 178 mi then some zi_178 else some zi_177)) else (bif Nat.ble 175 mi then (bif Nat.ble 176 mi then some zi_176 else some zi_175) else (bif Nat.ble 174 mi then some zi_174 else some zi_173))) else (bif Nat.ble 169 mi then (bif Nat.ble 171 mi then (bif Nat.ble 172 mi then some zi_172 else some zi_171) else (bif Nat.ble 170 mi then some zi_170 else some zi_169)) else (bif Nat.ble 167 mi then (bif Nat.ble 168 mi then some zi_168 else some zi_167) else some zi_166))) else (bif Nat.ble 158 mi then (bif Nat.ble 162 mi then (bif Nat.ble 164 mi then (bif Nat.ble 165 mi then some zi_165 else some zi_164) else (bif Nat.ble 163 mi then some zi_163 else some zi_162)) else (bif Nat.ble 160 mi then (bif Nat.ble 161 mi then some zi_161 else some zi_160) else (bif Nat.ble 159 mi then some zi_159 else some zi_158))) else (bif Nat.ble 154 mi then (bif Nat.ble 156 mi then (bif Nat.ble 157 mi then some zi_157 else some zi_156) else (bif Nat.ble 155 mi then some zi_155 else some zi_154)) else (bif Nat.ble 152 mi then (bif Nat.ble 153 mi then some zi_153 else some zi_152) else some zi_151)))) else (bif Nat.ble 136 mi then (bif Nat.ble 143 mi then (bif Nat.ble 147 mi then (bif Nat.ble 149 mi then (bif Nat.ble 150 mi then some zi_150 else some zi_149) else (bif Nat.ble 148 mi then some zi_148 else some zi_147)) else (bif Nat.ble 145 mi then (bif Nat.ble 146 mi then some zi_146 else some zi_145) else (bif Nat.ble 144 mi then some zi_144 else some zi_143))) else (bif Nat.ble 139 mi then (bif Nat.ble 141 mi then (bif Nat.ble 142 mi then some zi_142 else some zi_141) else (bif Nat.ble 140 mi then some zi_140 else some zi_139)) else (bif Nat.ble 137 mi then (bif Nat.ble 138 mi then some zi_138 else some zi_137) else some zi_136))) else (bif Nat.ble 128 mi then (bif Nat.ble 132 mi then (bif Nat.ble 134 mi then (bif Nat.ble 135 mi then some zi_135 else some zi_134) else (bif Nat.ble 133 mi then some zi_133 else some zi_132)) else (bif Nat.ble 130 mi then (bif Nat.ble 131 mi then some zi_131 else some zi_130) else (bif Nat.ble 129 mi then some zi_129 else some zi_128))) else (bif Nat.ble 124 mi then (bif Nat.ble 126 mi then (bif Nat.ble 127 mi then some zi_127 else some zi_126) else (bif Nat.ble 125 mi then some zi_125 else some zi_124)) else (bif Nat.ble 122 mi then (bif Nat.ble 123 mi then some zi_123 else some zi_122) else some zi_121)))))) else (bif Nat.ble 60 mi then (bif Nat.ble 90 mi then (bif Nat.ble 105 mi then (bif Nat.ble 113 mi then (bif Nat.ble 117 mi then (bif Nat.ble 119 mi then (bif Nat.ble 120 mi then some zi_120 else some zi_119) else (bif Nat.ble 118 mi then some zi_118 else some zi_117)) else (bif Nat.ble 115 mi then (bif Nat.ble 116 mi then some zi_116 else some zi_115) else (bif Nat.ble 114 mi then some zi_114 else some zi_113))) else (bif Nat.ble 109 mi then (bif Nat.ble 111 mi then (bif Nat.ble 112 mi then some zi_112 else some zi_111) else (bif Nat.ble 110 mi then some zi_110 else some zi_109)) else (bif Nat.ble 107 mi then (bif Nat.ble 108 mi then some zi_108 else some zi_107) else (bif Nat.ble 106 mi then some zi_106 else some zi_105)))) else (bif Nat.ble 97 mi then (bif Nat.ble 101 mi then (bif Nat.ble 103 mi then (bif Nat.ble 104 mi then some zi_104 else some zi_103) else (bif Nat.ble 102 mi then some zi_102 else some zi_101)) else (bif Nat.ble 99 mi then (bif Nat.ble 100 mi then some zi_100 else some zi_99) else (bif Nat.ble 98 mi then some zi_98 else some zi_97))) else (bif Nat.ble 93 mi then (bif Nat.ble 95 mi then (bif Nat.ble 96 mi then some zi_96 else some zi_95) else (bif Nat.ble 94 mi then some zi_94 else some zi_93)) else (bif Nat.ble 91 mi then (bif Nat.ble 92 mi then some zi_92 else some zi_91) else some zi_90)))) else (bif Nat.ble 75 mi then (bif Nat.ble 82 mi then (bif Nat.ble 86 mi then (bif Nat.ble 88 mi then (bif Nat.ble 89 mi then some zi_89 else some zi_88) else (bif Nat.ble 87 mi then some zi_87 else some zi_86)) else (bif Nat.ble 84 mi then (bif Nat.ble 85 mi then some zi_85 else some zi_84) else (bif Nat.ble 83 mi then some zi_83 else some zi_82))) else (bif Nat.ble 78 mi then (bif Nat.ble 80 mi then (bif Nat.ble 81 mi then some zi_81 else some zi_80) else (bif Nat.ble 79 mi then some zi_79 else some zi_78)) else (bif Nat.ble 76 mi then (bif Nat.ble 77 mi then some zi_77 else some zi_76) else some zi_75))) else (bif Nat.ble 67 mi then (bif Nat.ble 71 mi then (bif Nat.ble 73 mi then (bif Nat.ble 74 mi then some zi_74 else some zi_73) else (bif Nat.ble 72 mi then some zi_72 else some zi_71)) else (bif Nat.ble 69 mi then (bif Nat.ble 70 mi then some zi_70 else some zi_69) else (bif Nat.ble 68 mi then some zi_68 else some zi_67))) else (bif Nat.ble 63 mi then (bif Nat.ble 65 mi then (bif Nat.ble 66 mi then some zi_66 else some zi_65) else (bif Nat.ble 64 mi then some zi_64 else some zi_63)) else (bif Nat.ble 61 mi then (bif Nat.ble 62 mi then some zi_62 else some zi_61) else some zi_60))))) else (bif Nat.ble 30 mi then (bif Nat.ble 45 mi then (bif Nat.ble 52 mi then (bif Nat.ble 56 mi then (bif Nat.ble 58 mi then (bif Nat.ble 59 mi then some zi_59 else some zi_58) else (bif Nat.ble 57 mi then some zi_57 else some zi_56)) else (bif Nat.ble 54 mi then (bif Nat.ble 55 mi then some zi_55 else some zi_54) else (bif Nat.ble 53 mi then some zi_53 else some zi_52))) else (bif Nat.ble 48 mi then (bif Nat.ble 50 mi then (bif Nat.ble 51 mi then some zi_51 else some zi_50) else (bif Nat.ble 49 mi then some zi_49 else some zi_48)) else (bif Nat.ble 46 mi then (bif Nat.ble 47 mi then some zi_47 else some zi_46) else some zi_45))) else (bif Nat.ble 37 mi then (bif Nat.ble 41 mi then (bif Nat.ble 43 mi then (bif Nat.ble 44 mi then some zi_44 else some zi_43) else (bif Nat.ble 42 mi then some zi_42 else some zi_41)) else (bif Nat.ble 39 mi then (bif Nat.ble 40 mi then some zi_40 else some zi_39) else (bif Nat.ble 38 mi then some zi_38 else some zi_37))) else (bif Nat.ble 33 mi then (bif Nat.ble 35 mi then (bif Nat.ble 36 mi then some zi_36 else some zi_35) else (bif Nat.ble 34 mi then some zi_34 else some zi_33)) else (bif Nat.ble 31 mi then (bif Nat.ble 32 mi then some zi_32 else some zi_31) else some zi_30)))) else (bif Nat.ble 15 mi then (bif Nat.ble 22 mi then (bif Nat.ble 26 mi then (bif Nat.ble 28 mi then (bif Nat.ble 29 mi then some zi_29 else some zi_28) else (bif Nat.ble 27 mi then some zi_27 else some zi_26)) else (bif Nat.ble 24 mi then (bif Nat.ble 25 mi then some zi_25 else some zi_24) else (bif Nat.ble 23 mi then some zi_23 else some zi_22))) else (bif Nat.ble 18 mi then (bif Nat.ble 20 mi then (bif Nat.ble 21 mi then some zi_21 else some zi_20) else (bif Nat.ble 19 mi then some zi_19 else some zi_18)) else (bif Nat.ble 16 mi then (bif Nat.ble 17 mi then some zi_17 else some zi_16) else some zi_15))) else (bif Nat.ble 7 mi then (bif Nat.ble 11 mi then (bif Nat.ble 13 mi then (bif Nat.ble 14 mi then some zi_14 else some zi_13) else (bif Nat.ble 12 mi then some zi_12 else some zi_11)) else (bif Nat.ble 9 mi then (bif Nat.ble 10 mi then some zi_10 else some zi_9) else (bif Nat.ble 8 mi then some zi_8 else some zi_7))) else (bif Nat.ble 3 mi then (bif Nat.ble 5 mi then (bif Nat.ble 6 mi then some zi_6 else some zi_5) else (bif Nat.ble 4 mi then some zi_4 else some zi_3)) else (bif Nat.ble 1 mi then (bif Nat.ble 2 mi then some zi_2 else some zi_1) else some zi_0)))))))
theorem zjm_eq : ∀ {mi : Nat} {t : List (List (Option zI))}, zjm mi = some t → (match zget zia (mi / 16) with
  | some g => zget g (mi % 16)
  | none => none) = some t
  | 0, _, h => h
  | 1, _, h => h
  | 2, _, h => h
  | 3, _, h => h
  | 4, _, h => h
  | 5, _, h => h
  | 6, _, h => h
  | 7, _, h => h
  | 8, _, h => h
  | 9, _, h => h
  | 10, _, h => h
  | 11, _, h => h
  | 12, _, h => h
  | 13, _, h => h
  | 14, _, h => h
  | 15, _, h => h
  | 16, _, h => h
  | 17, _, h => h
  | 18, _, h => h
  | 19, _, h => h
  | 20, _, h => h
  | 21, _, h => h
  | 22, _, h => h
  | 23, _, h => h
  | 24, _, h => h
  | 25, _, h => h
  | 26, _, h => h
  | 27, _, h => h
  | 28, _, h => h
  | 29, _, h => h
  | 30, _, h => h
  | 31, _, h => h
  | 32, _, h => h
  | 33, _, h => h
  | 34, _, h => h
  | 35, _, h => h
  | 36, _, h => h
  | 37, _, h => h
  | 38, _, h => h
  | 39, _, h => h
  | 40, _, h => h
  | 41, _, h => h
  | 42, _, h => h
  | 43, _, h => h
  | 44, _, h => h
  | 45, _, h => h
  | 46, _, h => h
  | 47, _, h => h
  | 48, _, h => h
  | 49, _, h => h
  | 50, _, h => h
  | 51, _, h => h
  | 52, _, h => h
  | 53, _, h => h
  | 54, _, h => h
  | 55, _, h => h
  | 56, _, h => h
  | 57, _, h => h
  | 58, _, h => h
  | 59, _, h => h
  | 60, _, h => h
  | 61, _, h => h
  | 62, _, h => h
  | 63, _, h => h
  | 64, _, h => h
  | 65, _, h => h
  | 66, _, h => h
  | 67, _, h => h
  | 68, _, h => h
  | 69, _, h => h
  | 70, _, h => h
  | 71, _, h => h
  | 72, _, h => h
  | 73, _, h => h
  | 74, _, h => h
  | 75, _, h => h
  | 76, _, h => h
  | 77, _, h => h
  | 78, _, h => h
  | 79, _, h => h
  | 80, _, h => h
  | 81, _, h => h
  | 82, _, h => h
  | 83, _, h => h
  | 84, _, h => h
  | 85, _, h => h
  | 86, _, h => h
  | 87, _, h => h
  | 88, _, h => h
  | 89, _, h => h
  | 90, _, h => h
  | 91, _, h => h
  | 92, _, h => h
  | 93, _, h => h
  | 94, _, h => h
  | 95, _, h => h
  | 96, _, h => h
  | 97, _, h => h
  | 98, _, h => h
  | 99, _, h => h
  | 100, _, h => h
  | 101, _, h => h
  | 102, _, h => h
  | 103, _, h => h
  | 104, _, h => h
  | 105, _, h => h
  | 106, _, h => h
  | 107, _, h => h
  | 108, _, h => h
  | 109, _, h => h
  | 110, _, h => h
  | 111, _, h => h
  | 112, _, h => h
  | 113, _, h => h
  | 114, _, h => h
  | 115, _, h => h
  | 116, _, h => h
  | 117, _, h => h
  | 118, _, h => h
  | 119, _, h => h
  | 120, _, h => h
  | 121, _, h => h
  | 122, _, h => h
  | 123, _, h => h
  | 124, _, h => h
  | 125, _, h => h
  | 126, _, h => h
  | 127, _, h => h
  | 128, _, h => h
  | 129, _, h => h
  | 130, _, h => h
  | 131, _, h => h
  | 132, _, h => h
  | 133, _, h => h
  | 134, _, h => h
  | 135, _, h => h
  | 136, _, h => h
  | 137, _, h => h
  | 138, _, h => h
  | 139, _, h => h
  | 140, _, h => h
  | 141, _, h => h
  | 142, _, h => h
  | 143, _, h => h
  | 144, _, h => h
  | 145, _, h => h
  | 146, _, h => h
  | 147, _, h => h
  | 148, _, h => h
  | 149, _, h => h
  | 150, _, h => h
  | 151, _, h => h
  | 152, _, h => h
  | 153, _, h => h
  | 154, _, h => h
  | 155, _, h => h
  | 156, _, h => h
  | 157, _, h => h
  | 158, _, h => h
  | 159, _, h => h
  | 160, _, h => h
  | 161, _, h => h
  | 162, _, h => h
  | 163, _, h => h
  | 164, _, h => h
  | 165, _, h => h
  | 166, _, h => h
  | 167, _, h => h
  | 168, _, h => h
  | 169, _, h => h
  | 170, _, h => h
  | 171, _, h => h
  | 172, _, h => h
  | 173, _, h => h
  | 174, _, h => h
  | 175, _, h => h
  | 176, _, h => h
  | 177, _, h => h
  | 178, _, h => h
  | 179, _, h => h
  | 180, _, h => h
  | 181, _, h => h
  | 182, _, h => h
  | 183, _, h => h
  | 184, _, h => h
  | 185, _, h => h
  | 186, _, h => h
  | 187, _, h => h
  | 188, _, h => h
  | 189, _, h => h
  | 190, _, h => h
  | 191, _, h => h
  | 192, _, h => h
  | 193, _, h => h
  | 194, _, h => h
  | 195, _, h => h
  | 196, _, h => h
  | 197, _, h => h
  | 198, _, h => h
  | 199, _, h => h
  | 200, _, h => h
  | 201, _, h => h
  | 202, _, h => h
  | 203, _, h => h
  | 204, _, h => h
  | 205, _, h => h
  | 206, _, h => h
  | 207, _, h => h
  | 208, _, h => h
  | 209, _, h => h
  | 210, _, h => h
  | 211, _, h => h
  | 212, _, h => h
  | 213, _, h => h
  | 214, _, h => h
  | 215, _, h => h
  | 216, _, h => h
  | 217, _, h => h
  | 218, _, h => h
  | 219, _, h => h
  | 220, _, h => h
  | 221, _, h => h
  | 222, _, h => h
  | 223, _, h => h
  | 224, _, h => h
  | 225, _, h => h
  | 226, _, h => h
  | 227, _, h => h
  | 228, _, h => h
  | 229, _, h => h
  | 230, _, h => h
  | 231, _, h => h
  | 232, _, h => h
  | 233, _, h => h
  | 234, _, h => h
  | 235, _, h => h
  | 236, _, h => h
  | 237, _, h => h
  | 238, _, h => h
  | 239, _, h => h
  | 240, _, h => h
  | 241, _, h => h
  | n + 242, _, h => by
    unfold zjm at h
    rw [show Nat.ble 242 (n + 242) = true by rw [Nat.ble_eq]; omega] at h
    cases h
noncomputable def zif3 (mi pc : Nat) : Option zI := match zjm mi with
  | some t => (match zgf t (pc / 16) with
    | some r => (match zgf r (pc % 16) with
      | some e => e
      | none => none)
    | none => none)
  | none => none
theorem zif3_eq {mi pc : Nat} {e : zI} (h : zif3 mi pc = some e) : zi mi pc = some e := by
  unfold zif3 at h
  split at h
  · rename_i t ht
    have ht := zjm_eq ht
    rw [zgf_eq] at h
    split at h
    · rename_i r hr
      rw [zgf_eq] at h
      split at h
      · rename_i e' he
        subst h
        unfold zi
        split at ht
        · rename_i g hg
          rw [hg]
          dsimp only
          rw [ht]
          dsimp only
          rw [hr]
          dsimp only
          rw [he]
        · cases ht
      · cases h
    · cases h
  · cases h
/-! CUTS: a state meets an annotation by numbers given for its entries. -/
def aval (E : List Int) : aI → Int
  | .inl (k, off) => (match zget E k with
    | some w => w + off
    | none => off)
  | .inr n => n
theorem aval_eq {E : List Int} {z : Int} {a : aI} (h : aIs E z a) : aval E a = z := by
  match a, h with
  | .inl (k, off), h =>
    obtain ⟨w, h1, h2⟩ := h
    unfold aval
    dsimp only
    rw [h1]
    exact h2.symm
  | .inr n, h => exact h.symm
def aok (cs : aCs) : aI → Bool
  | .inl (k, _) => Nat.blt k cs.length
  | .inr _ => true
theorem aok_ok {E : List Int} {cs : aCs} {a : aI} (hs : aSat E cs) (h : aok cs a = true) : aIs E (aval E a) a := by
  match a, h with
  | .inl (k, off), h =>
    have h : k < cs.length := by
      have h : Nat.blt k cs.length = true := h
      rw [Nat.blt_eq] at h
      exact h
    rw [← hs.1] at h
    obtain ⟨w, hw⟩ := zget_of_lt h
    refine ⟨w, hw, ?_⟩
    unfold aval
    dsimp only
    rw [hw]
  | .inr n, _ => rfl
def aoff (off : Int) : aI → aI
  | .inl (k, o) => .inl (k, o + off)
  | .inr n => .inr (n + off)
def aeqI : aI → aI → Bool
  | .inl (k, o), .inl (k', o') => Nat.beq k k' && ieq o o'
  | .inr n, .inr n' => ieq n n'
  | _, _ => false
theorem aeqI_ok {a b : aI} (h : aeqI a b = true) : a = b := by
  match a, b, h with
  | .inl (k, o), .inl (k', o'), h =>
    have h : (Nat.beq k k' && ieq o o') = true := h
    rw [Bool.and_eq_true, ieq_eq] at h
    rw [Nat.eq_of_beq_eq_true h.1, h.2]
  | .inr n, .inr n', h =>
    have h : ieq n n' = true := h
    rw [ieq_eq] at h
    rw [h]
/-- an annotation's number against a state's -/
def amI (sg : List aI) (cs : aCs) (a b : aI) : Bool := match a with
  | .inl (k, off) => (match zget sg k with
    | some s => aeqI (aoff off s) b
    | none => false)
  | .inr n => ieq (abd cs b).1 n && ieq (abd cs b).2 n
theorem amI_ok {sg : List aI} {E : List Int} {cs : aCs} {a b : aI} {z : Int} (hs : aSat E cs) (hz : aIs E z b) (h : amI sg cs a b = true) : aIs (sg.map (aval E)) z a := by
  match a, h with
  | .inl (k, off), h =>
    unfold amI at h
    dsimp only at h
    split at h
    · rename_i s hk
      have e := aeqI_ok h
      subst e
      refine ⟨aval E s, by rw [zget_map, hk]; rfl, ?_⟩
      match s, hz with
      | .inl (k2, o2), hz =>
        obtain ⟨w, h1, h2⟩ := hz
        unfold aval
        dsimp only
        rw [h1]
        dsimp only
        omega
      | .inr n, hz => exact hz
    · cases h
  | .inr n, h =>
    have h : (ieq (abd cs b).1 n && ieq (abd cs b).2 n) = true := h
    rw [Bool.and_eq_true, ieq_eq, ieq_eq] at h
    have w := abd_ok hs hz
    show z = n
    omega
def amV (sg : List aI) (cs : aCs) : aV → aV → Bool
  | .inl (.inl a), .inl (.inl b) => amI sg cs a b
  | .inl (.inr a), .inl (.inr b) => amI sg cs a b
  | .inr l, .inr l' => l'.all l.elem
  | _, _ => false
theorem amV_ok {sg : List aI} {E : List Int} {cs : aCs} {a b : aV} {v : Value} (hs : aSat E cs) (hv : aVs E v b) (h : amV sg cs a b = true) : aVs (sg.map (aval E)) v a := by
  match a, b, h, hv with
  | .inl (.inl a), .inl (.inl b), h, ⟨x, e, hx⟩ => exact ⟨x, e, amI_ok hs hx h⟩
  | .inl (.inr a), .inl (.inr b), h, ⟨x, e, hx⟩ => exact ⟨x, e, amI_ok hs hx h⟩
  | .inr l, .inr l', h, ⟨o, e, ho⟩ => exact ⟨o, e, List.elem_iff.mp (List.all_eq_true.mp h o ho)⟩
def amS (sg : List aI) (cs : aCs) : List aV → List aV → Bool
  | [], [] => true
  | a :: r, b :: s => amV sg cs a b && amS sg cs r s
  | _, _ => false
theorem amS_ok {sg : List aI} {E : List Int} {cs : aCs} (hs : aSat E cs) : ∀ {as bs : List aV} {st : List Value}, aSt E st bs → amS sg cs as bs = true → aSt (sg.map (aval E)) st as
  | [], [], [], _, _ => trivial
  | [], [], _ :: _, h, _ => h.elim
  | [], _ :: _, _, _, h => by cases h
  | _ :: _, [], _, _, h => by cases h
  | a :: r, b :: s, [], h, _ => h.elim
  | a :: r, b :: s, v :: st, h, g => by
    unfold amS at g
    rw [Bool.and_eq_true] at g
    exact ⟨amV_ok hs h.1 g.1, amS_ok hs h.2 g.2⟩
def amL (sg : List aI) (cs : aCs) : List (Option aV) → List (Option aV) → Bool
  | [], [] => true
  | none :: r, _ :: s => amL sg cs r s
  | some a :: r, some b :: s => amV sg cs a b && amL sg cs r s
  | _, _ => false
theorem amL_ok {sg : List aI} {E : List Int} {cs : aCs} (hs : aSat E cs) : ∀ {as bs : List (Option aV)}, amL sg cs as bs = true → as.length = bs.length ∧ ∀ i a, zget as i = some (some a) → ∃ b, zget bs i = some (some b) ∧ ∀ v, aVs E v b → aVs (sg.map (aval E)) v a
  | [], [], _ => ⟨rfl, fun _ _ h => by cases h⟩
  | [], _ :: _, h => by cases h
  | none :: _, [], h => by cases h
  | some _ :: _, [], h => by cases h
  | none :: r, b :: s, h => by
    obtain ⟨g1, g2⟩ := amL_ok (as := r) (bs := s) hs h
    refine ⟨congrArg Nat.succ g1, fun i a ha => ?_⟩
    match i, ha with
    | 0, ha => cases ha
    | i + 1, ha => exact g2 i a ha
  | some _ :: _, none :: _, h => by cases h
  | some a1 :: r, some b1 :: s, h => by
    unfold amL at h
    rw [Bool.and_eq_true] at h
    obtain ⟨g1, g2⟩ := amL_ok (as := r) (bs := s) hs h.2
    refine ⟨congrArg Nat.succ g1, fun i a ha => ?_⟩
    match i, ha with
    | 0, ha =>
      cases ha
      exact ⟨b1, rfl, fun v hv => amV_ok hs hv h.1⟩
    | i + 1, ha => exact g2 i a ha
/-- the known contents that an annotation lists -/
def amT (sg : List aI) (cs : aCs) (T : aT) : aT → Bool
  | [] => true
  | (o, k, a) :: r => (match afind T o k with
    | some b => amI sg cs a b
    | none => false) && amT sg cs T r
theorem amT_ok {sg : List aI} {cs : aCs} {T : aT} : ∀ {A : aT} {o k : Nat} {a : aI}, amT sg cs T A = true → afind A o k = some a → ∃ b, afind T o k = some b ∧ amI sg cs a b = true
  | [], _, _, _, _, h => by cases h
  | (o1, k1, a1) :: r, o, k, a, h, g => by
    unfold amT at h
    rw [Bool.and_eq_true] at h
    unfold afind at g
    cases hb : (Nat.beq o1 o && Nat.beq k1 k)
    · rw [hb] at g
      exact amT_ok h.2 g
    · rw [hb] at g
      cases g
      rw [Bool.and_eq_true] at hb
      have e1 := Nat.eq_of_beq_eq_true hb.1
      have e2 := Nat.eq_of_beq_eq_true hb.2
      subst e1
      subst e2
      have h1 := h.1
      split at h1
      · rename_i b hf
        exact ⟨b, hf, h1⟩
      · cases h1
/-! CUTS: a whole state meets an annotation. -/
def amB (cs : aCs) : aCs → List aI → Bool
  | [], [] => true
  | q :: r, s :: sg => (aok cs s && (ile q.1 (abd cs s).1 && ile (abd cs s).2 q.2)) && amB cs r sg
  | _, _ => false
theorem amB_ok {E : List Int} {cs : aCs} (hs : aSat E cs) : ∀ {A : aCs} {sg : List aI}, amB cs A sg = true → aSat (sg.map (aval E)) A
  | [], [], _ => ⟨rfl, fun _ _ _ h => by cases h⟩
  | [], _ :: _, h => by cases h
  | _ :: _, [], h => by cases h
  | q1 :: r, s :: sg, h => by
    unfold amB at h
    rw [Bool.and_eq_true, Bool.and_eq_true, Bool.and_eq_true, ile_eq, ile_eq] at h
    obtain ⟨⟨g1, g2, g3⟩, g4⟩ := h
    obtain ⟨i1, i2⟩ := amB_ok hs g4
    refine ⟨congrArg Nat.succ i1, fun k w q hk hq => ?_⟩
    match k, hk, hq with
    | 0, hk, hq =>
      cases hk
      cases hq
      have b := abd_ok hs (aok_ok hs g1)
      omega
    | k + 1, hk, hq => exact i2 k w q hk hq
def ameet (sg : List aI) (A X : aX) : Bool := (amB X.1 A.1 sg && Nat.beq A.2.2.1 X.2.2.1) && (amL sg X.1 A.2.2.2.1 X.2.2.2.1 && (amS sg X.1 A.2.2.2.2 X.2.2.2.2 && amT sg X.1 X.2.1 A.2.1))
theorem ameet_ok {S : Nat → Option (Nat × Nat)} {rf : Nat → Nat → List Nat} {iv : Nat → Nat → Int × Int} {E : List Int} {sg : List aI} {A X : aX} {x : zC} (R : aRel S rf iv E X x) (h : ameet sg A X = true) : aRel S rf iv (sg.map (aval E)) A x := by
  obtain ⟨hs, hp, hl, hst, hh⟩ := R
  unfold ameet at h
  rw [Bool.and_eq_true, Bool.and_eq_true, Bool.and_eq_true, Bool.and_eq_true] at h
  obtain ⟨⟨c1, c2⟩, c3, c4, c5⟩ := h
  obtain ⟨l1, l2⟩ := amL_ok hs c3
  refine ⟨amB_ok hs c1, (Nat.eq_of_beq_eq_true c2).trans hp, ⟨hl.1.trans l1.symm, fun i a ha => ?_⟩, amS_ok hs hst c4, hh.1, fun o k a ha => ?_⟩
  · obtain ⟨b, b1, b2⟩ := l2 i a ha
    obtain ⟨v, v1, v2⟩ := hl.2 i b b1
    exact ⟨v, v1, b2 v v2⟩
  · obtain ⟨b, b1, b2⟩ := amT_ok c5 ha
    exact amI_ok hs (hh.2 o k b b1) b2
/-- the numbers for an annotation's entries, read off a state (how they are found is no part of the truth) -/
def asI (a b : aI) (sg : List (Nat × aI)) : List (Nat × aI) := match a with
  | .inl (k, off) => (k, aoff (-off) b) :: sg
  | .inr _ => sg
def asV (a b : aV) (sg : List (Nat × aI)) : List (Nat × aI) := match a, b with
  | .inl (.inl a), .inl (.inl b) => asI a b sg
  | .inl (.inr a), .inl (.inr b) => asI a b sg
  | _, _ => sg
def asS : List aV → List aV → List (Nat × aI) → List (Nat × aI)
  | a :: r, b :: s, sg => asV a b (asS r s sg)
  | _, _, sg => sg
def asL : List (Option aV) → List (Option aV) → List (Nat × aI) → List (Nat × aI)
  | some a :: r, some b :: s, sg => asV a b (asL r s sg)
  | _ :: r, _ :: s, sg => asL r s sg
  | _, _, sg => sg
def asT (T : aT) : aT → List (Nat × aI) → List (Nat × aI)
  | (o, k, a) :: r, sg => (match afind T o k with
    | some b => asI a b (asT T r sg)
    | none => asT T r sg)
  | [], sg => sg
def asF (l : List (Nat × aI)) (k : Nat) : aI := match l with
  | [] => .inr 0
  | (k', a) :: r => bif Nat.beq k' k then a else asF r k
def asg (A X : aX) : List aI :=
  let l := asL A.2.2.2.1 X.2.2.2.1 (asS A.2.2.2.2 X.2.2.2.2 (asT X.2.1 A.2.1 []))
  (List.range A.1.length).map (asF l)
def ameets (A X : aX) : Bool := ameet (asg A X) A X
theorem ameets_ok {S : Nat → Option (Nat × Nat)} {rf : Nat → Nat → List Nat} {iv : Nat → Nat → Int × Int} {E : List Int} {A X : aX} {x : zC} (R : aRel S rf iv E X x) (h : ameets A X = true) : ∃ E', aRel S rf iv E' A x := ⟨_, ameet_ok R h⟩
