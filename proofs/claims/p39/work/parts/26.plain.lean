/-! STEPS BY BOUNDS: instructions that leave the cells alone. -/
abbrev aX : Type := aCs × aT × Nat × List (Option aV) × List aV
abbrev aR : Type := List aX ⊕ ((Nat × List aV × aX) ⊕ Option aV)
def aclr (al : List (Option aV)) (i : Nat) : List (Option aV) := match i with
  | 0 => al
  | j + 1 => (match zget al j with
    | some (some (.inl (.inr _))) => zput al j none
    | _ => al)
def ast1 (al : List (Option aV)) (i : Nat) (a : aV) : List (Option aV) := zput (aclr al i) i (some a)
def ast2 (al : List (Option aV)) (i : Nat) (a : aV) : List (Option aV) := zput (zput (aclr al i) i (some a)) (i + 1) none
section AL
variable {E : List Int} {lo : List (Option Value)} {al : List (Option aV)} {i : Nat} {v : Value} {a : aV}
theorem aLo_put (h : aLo E lo al) (hv : aVs E v a) : aLo E (zput lo i (some v)) (zput al i (some a)) := by
  refine ⟨by rw [zput_length, zput_length]; exact h.1, fun j b hb => ?_⟩
  by_cases hj : j = i
  · subst hj
    have hl := zget_lt hb
    rw [zput_length] at hl
    rw [zget_put_eq _ _ _ hl] at hb
    cases hb
    exact ⟨v, zget_put_eq _ _ _ (by rw [h.1]; exact hl), hv⟩
  · rw [zget_put_ne _ _ _ _ hj] at hb
    obtain ⟨w, h1, h2⟩ := h.2 j b hb
    exact ⟨w, by rw [zget_put_ne _ _ _ _ hj]; exact h1, h2⟩
theorem aLo_none (h : aLo E lo al) : aLo E (zput lo i none) (zput al i none) := by
  refine ⟨by rw [zput_length, zput_length]; exact h.1, fun j b hb => ?_⟩
  by_cases hj : j = i
  · subst hj
    have hl := zget_lt hb
    rw [zput_length] at hl
    rw [zget_put_eq _ _ _ hl] at hb
    cases hb
  · rw [zget_put_ne _ _ _ _ hj] at hb
    obtain ⟨w, h1, h2⟩ := h.2 j b hb
    exact ⟨w, by rw [zget_put_ne _ _ _ _ hj]; exact h1, h2⟩
theorem aVs_long (h : aVs E v a) : zlong v = true ↔ ∃ l, a = .inl (.inr l) := by
  match a, h with
  | .inl (.inl a), h =>
    obtain ⟨x, rfl, -⟩ := h
    exact ⟨fun q => (by cases q), fun ⟨l, q⟩ => (by cases q)⟩
  | .inl (.inr a), h =>
    obtain ⟨x, rfl, -⟩ := h
    exact ⟨fun _ => ⟨a, rfl⟩, fun _ => rfl⟩
  | .inr l, h =>
    obtain ⟨x, rfl, -⟩ := h
    exact ⟨fun q => (by cases q), fun ⟨l, q⟩ => (by cases q)⟩
theorem aLo_clr (h : aLo E lo al) : aLo E (zclr lo i) (aclr al i) := by
  cases i with
  | zero => exact h
  | succ j =>
    unfold zclr aclr
    dsimp only
    cases ha : zget al j with
    | none =>
      dsimp only
      have hn : zget lo j = none := by
        cases hz : zget lo j with
        | none => rfl
        | some w =>
          have := zget_lt hz
          rw [h.1] at this
          obtain ⟨u, hu⟩ := zget_of_lt this
          rw [hu] at ha
          cases ha
      rw [hn]
      exact h
    | some w =>
      match w, ha with
      | none, ha =>
        dsimp only
        split
        · rename_i w' hw
          cases zlong w'
          · exact h
          · refine ⟨by dsimp only [cond_true]; rw [zput_length]; exact h.1, fun k b hb => ?_⟩
            have hk : k ≠ j := fun q => by subst q; rw [ha] at hb; cases hb
            obtain ⟨u, h1, h2⟩ := h.2 k b hb
            exact ⟨u, by dsimp only [cond_true]; rw [zget_put_ne _ _ _ _ hk]; exact h1, h2⟩
        · exact h
      | some b, ha =>
        obtain ⟨u, h1, h2⟩ := h.2 j b ha
        rw [h1]
        dsimp only
        match b, ha, h2 with
        | .inl (.inr l), ha, h2 =>
          rw [(aVs_long h2).mpr ⟨l, rfl⟩]
          exact aLo_none h
        | .inl (.inl l), ha, h2 =>
          have e : zlong u = false := by
            cases hz : zlong u
            · rfl
            · obtain ⟨l', q⟩ := (aVs_long h2).mp hz
              cases q
          rw [e]
          exact h
        | .inr l, ha, h2 =>
          have e : zlong u = false := by
            cases hz : zlong u
            · rfl
            · obtain ⟨l', q⟩ := (aVs_long h2).mp hz
              cases q
          rw [e]
          exact h
theorem aLo_st1 (h : aLo E lo al) (hv : aVs E v a) : aLo E (zst1 lo i v) (ast1 al i a) := aLo_put (aLo_clr h) hv
theorem aLo_st2 (h : aLo E lo al) (hv : aVs E v a) : aLo E (zst2 lo i v) (ast2 al i a) := aLo_none (aLo_put (aLo_clr h) hv)
end AL
def aRel (S : Nat → Option (Nat × Nat)) (rf : Nat → Nat → List Nat) (iv : Nat → Nat → Int × Int) (E : List Int) (X : aX) (x : zC) : Prop := aSat E X.1 ∧ X.2.2.1 = x.1 ∧ aLo E x.2.1 X.2.2.2.1 ∧ aSt E x.2.2.1 X.2.2.2.2 ∧ aHp S rf iv E X.2.1 x.2.2.2
/-- on to one of some states; nothing but what W names is written -/
def aGo (S : Nat → Option (Nat × Nat)) (rf : Nat → Nat → List Nat) (iv : Nat → Nat → Int × Int) (W : Nat → Nat → Bool) (E : List Int) (Ys : List aX) (x y : zC) : Prop := (∃ q, ∃ Y ∈ Ys, aRel S rf iv (E ++ q) Y y) ∧ ∀ o k, W o k = false → y.2.2.2.2.1 o k = x.2.2.2.2.1 o k
def ago (X : aX) : Option aR := some (.inl [X])
def aq0 (len : Nat) (v : Value) : aX → Option aR := fun (cs, T, pc, al, st) => match v with
  | .int c => ago (cs, T, pc + len, al, .inl (.inl (.inr c.toInt)) :: st)
  | .long c => ago (cs, T, pc + len, al, .inl (.inr (.inr c.toInt)) :: st)
  | _ => none
def aq1 (len a : Nat) : aX → Option aR := fun (cs, T, pc, al, st) => match zget al a with
  | some (some (.inl (.inl i))) => ago (cs, T, pc + len, al, .inl (.inl i) :: st)
  | _ => none
def aq2 (len a : Nat) : aX → Option aR := fun (cs, T, pc, al, st) => match zget al a with
  | some (some (.inl (.inr i))) => ago (cs, T, pc + len, al, .inl (.inr i) :: st)
  | _ => none
def aq3 (len a : Nat) : aX → Option aR := fun (cs, T, pc, al, st) => match zget al a with
  | some (some (.inr l)) => ago (cs, T, pc + len, al, .inr l :: st)
  | _ => none
def aq4 (len a : Nat) : aX → Option aR := fun (cs, T, pc, al, st) => match st with
  | .inl (.inl i) :: r => ago (cs, T, pc + len, ast1 al a (.inl (.inl i)), r)
  | _ => none
def aq5 (len a : Nat) : aX → Option aR := fun (cs, T, pc, al, st) => match st with
  | .inl (.inr i) :: r => ago (cs, T, pc + len, ast2 al a (.inl (.inr i)), r)
  | _ => none
def aq6 (len a : Nat) : aX → Option aR := fun (cs, T, pc, al, st) => match st with
  | .inr l :: r => ago (cs, T, pc + len, ast1 al a (.inr l), r)
  | _ => none
def aq7 (len b : Nat) : aX → Option aR := fun (cs, T, pc, al, st) => match st with
  | .inl (.inl y) :: .inl (.inl x) :: r => ago ((abin cs b x y).1, T, pc + len, al, .inl (.inl (abin cs b x y).2) :: r)
  | _ => none
def aq8 (len b : Nat) : aX → Option aR := fun (cs, T, pc, al, st) => match st with
  | .inl (.inl y) :: .inl (.inl x) :: r => (match adiv cs b x y with
    | some q => ago (q.1, T, pc + len, al, .inl (.inl q.2) :: r)
    | none => none)
  | _ => none
def aq9 (len b : Nat) : aX → Option aR := fun (cs, T, pc, al, st) => match st with
  | .inl (.inl x) :: r => ago ((aun cs b x).1, T, pc + len, al, .inl (.inl (aun cs b x).2) :: r)
  | _ => none
def aq10 (len : Nat) : aX → Option aR := fun (cs, T, pc, al, st) => match st with
  | .inl (.inl x) :: r => ago (cs, T, pc + len, al, .inl (.inr x) :: r)
  | _ => none
section AQ
variable {S : Nat → Option (Nat × Nat)} {rf : Nat → Nat → List Nat} {iv : Nat → Nat → Int × Int} {W : Nat → Nat → Bool} {E : List Int} {cs : aCs} {T : aT} {al : List (Option aV)} {as : List aV} {pc len a b : Nat} {v : Value} {lo : List (Option Value)} {st : List Value} {h : zH} {Ys : List aX}
/-- one state, nothing written, no new entry -/
theorem aGo_one {Y : aX} {lo' : List (Option Value)} {st' : List Value} {pc' : Nat} (R : aRel S rf iv E Y (pc', lo', st', h)) : aGo S rf iv W E [Y] (pc, lo, st, h) (pc', lo', st', h) := ⟨⟨[], Y, List.mem_singleton.mpr rfl, by rw [List.append_nil]; exact R⟩, fun _ _ _ => rfl⟩
/-- an int comes onto the stack, its bounds perhaps a new entry -/
theorem aGo_int {r : aCs × aI} {z : Int32} {ar : List aV} {sr : List Value} {pc' : Nat} (hg : aGot E cs z.toInt r) (hl : aLo E lo al) (hst : aSt E sr ar) (hh : aHp S rf iv E T h) : aGo S rf iv W E [(r.1, T, pc', al, .inl (.inl r.2) :: ar)] (pc, lo, st, h) (pc', lo, .int z :: sr, h) := by
  obtain ⟨q, g1, g2⟩ := hg
  exact ⟨⟨q, _, List.mem_singleton.mpr rfl, g1, rfl, aLo_ext hl, ⟨⟨z, rfl, g2⟩, aSt_ext hst⟩, aHp_ext hh⟩, fun _ _ _ => rfl⟩
theorem at_0 (R : aRel S rf iv E (cs, T, pc, al, as) (pc, lo, st, h)) (h0 : aq0 len v (cs, T, pc, al, as) = some (.inl Ys)) : ∃ y, zs0 len v (pc, lo, st, h) = some (.inl y) ∧ aGo S rf iv W E Ys (pc, lo, st, h) y := by
  obtain ⟨hs, -, hl, hst, hh⟩ := R
  simp only [aq0, ago] at h0
  split at h0
  · cases h0
    exact ⟨_, rfl, aGo_one ⟨hs, rfl, hl, ⟨⟨_, rfl, rfl⟩, hst⟩, hh⟩⟩
  · cases h0
    exact ⟨_, rfl, aGo_one ⟨hs, rfl, hl, ⟨⟨_, rfl, rfl⟩, hst⟩, hh⟩⟩
  · cases h0
theorem at_1 (R : aRel S rf iv E (cs, T, pc, al, as) (pc, lo, st, h)) (h0 : aq1 len a (cs, T, pc, al, as) = some (.inl Ys)) : ∃ y, zs1 len a (pc, lo, st, h) = some (.inl y) ∧ aGo S rf iv W E Ys (pc, lo, st, h) y := by
  obtain ⟨hs, -, hl, hst, hh⟩ := R
  simp only [aq1, ago] at h0
  split at h0
  · rename_i i hg
    cases h0
    obtain ⟨u, h1, x, rfl, h2⟩ := hl.2 a _ hg
    refine ⟨(pc + len, lo, .int x :: st, h), ?_, aGo_one ⟨hs, rfl, hl, ⟨⟨x, rfl, h2⟩, hst⟩, hh⟩⟩
    simp only [zs1]
    rw [h1]
    rfl
  · cases h0
theorem at_2 (R : aRel S rf iv E (cs, T, pc, al, as) (pc, lo, st, h)) (h0 : aq2 len a (cs, T, pc, al, as) = some (.inl Ys)) : ∃ y, zs2 len a (pc, lo, st, h) = some (.inl y) ∧ aGo S rf iv W E Ys (pc, lo, st, h) y := by
  obtain ⟨hs, -, hl, hst, hh⟩ := R
  simp only [aq2, ago] at h0
  split at h0
  · rename_i i hg
    cases h0
    obtain ⟨u, h1, x, rfl, h2⟩ := hl.2 a _ hg
    refine ⟨(pc + len, lo, .long x :: st, h), ?_, aGo_one ⟨hs, rfl, hl, ⟨⟨x, rfl, h2⟩, hst⟩, hh⟩⟩
    simp only [zs2]
    rw [h1]
    rfl
  · cases h0
theorem at_3 (R : aRel S rf iv E (cs, T, pc, al, as) (pc, lo, st, h)) (h0 : aq3 len a (cs, T, pc, al, as) = some (.inl Ys)) : ∃ y, zs3 len a (pc, lo, st, h) = some (.inl y) ∧ aGo S rf iv W E Ys (pc, lo, st, h) y := by
  obtain ⟨hs, -, hl, hst, hh⟩ := R
  simp only [aq3, ago] at h0
  split at h0
  · rename_i i hg
    cases h0
    obtain ⟨u, h1, x, rfl, h2⟩ := hl.2 a _ hg
    refine ⟨(pc + len, lo, .ref x :: st, h), ?_, aGo_one ⟨hs, rfl, hl, ⟨⟨x, rfl, h2⟩, hst⟩, hh⟩⟩
    simp only [zs3]
    rw [h1]
    rfl
  · cases h0
theorem aSt_cons {a : aV} {ar : List aV} (hst : aSt E st (a :: ar)) : ∃ v sr, st = v :: sr ∧ aVs E v a ∧ aSt E sr ar := by
  match st, hst with
  | [], hst => exact hst.elim
  | v :: sr, hst => exact ⟨v, sr, rfl, hst.1, hst.2⟩
theorem at_4 (R : aRel S rf iv E (cs, T, pc, al, as) (pc, lo, st, h)) (h0 : aq4 len a (cs, T, pc, al, as) = some (.inl Ys)) : ∃ y, zs4 len a (pc, lo, st, h) = some (.inl y) ∧ aGo S rf iv W E Ys (pc, lo, st, h) y := by
  obtain ⟨hs, -, hl, hst, hh⟩ := R
  simp only [aq4, ago] at h0
  split at h0
  · cases h0
    obtain ⟨u, sr, rfl, ⟨x, rfl, h2⟩, h3⟩ := aSt_cons hst
    exact ⟨_, rfl, aGo_one ⟨hs, rfl, aLo_st1 hl ⟨x, rfl, h2⟩, h3, hh⟩⟩
  · cases h0
theorem at_5 (R : aRel S rf iv E (cs, T, pc, al, as) (pc, lo, st, h)) (h0 : aq5 len a (cs, T, pc, al, as) = some (.inl Ys)) : ∃ y, zs5 len a (pc, lo, st, h) = some (.inl y) ∧ aGo S rf iv W E Ys (pc, lo, st, h) y := by
  obtain ⟨hs, -, hl, hst, hh⟩ := R
  simp only [aq5, ago] at h0
  split at h0
  · cases h0
    obtain ⟨u, sr, rfl, ⟨x, rfl, h2⟩, h3⟩ := aSt_cons hst
    exact ⟨_, rfl, aGo_one ⟨hs, rfl, aLo_st2 hl ⟨x, rfl, h2⟩, h3, hh⟩⟩
  · cases h0
theorem at_6 (R : aRel S rf iv E (cs, T, pc, al, as) (pc, lo, st, h)) (h0 : aq6 len a (cs, T, pc, al, as) = some (.inl Ys)) : ∃ y, zs6 len a (pc, lo, st, h) = some (.inl y) ∧ aGo S rf iv W E Ys (pc, lo, st, h) y := by
  obtain ⟨hs, -, hl, hst, hh⟩ := R
  simp only [aq6, ago] at h0
  split at h0
  · cases h0
    obtain ⟨u, sr, rfl, ⟨x, rfl, h2⟩, h3⟩ := aSt_cons hst
    exact ⟨_, rfl, aGo_one ⟨hs, rfl, aLo_st1 hl ⟨x, rfl, h2⟩, h3, hh⟩⟩
  · cases h0
theorem at_7 (R : aRel S rf iv E (cs, T, pc, al, as) (pc, lo, st, h)) (h0 : aq7 len b (cs, T, pc, al, as) = some (.inl Ys)) : ∃ y, zs7 len b (pc, lo, st, h) = some (.inl y) ∧ aGo S rf iv W E Ys (pc, lo, st, h) y := by
  obtain ⟨hs, -, hl, hst, hh⟩ := R
  simp only [aq7, ago] at h0
  split at h0
  · cases h0
    obtain ⟨u, sr, rfl, ⟨y, rfl, h2⟩, h3⟩ := aSt_cons hst
    obtain ⟨u, sr, rfl, ⟨x, rfl, h4⟩, h5⟩ := aSt_cons h3
    exact ⟨_, rfl, aGo_int (abin_ok hs h4 h2) hl h5 hh⟩
  · cases h0
theorem at_8 (R : aRel S rf iv E (cs, T, pc, al, as) (pc, lo, st, h)) (h0 : aq8 len b (cs, T, pc, al, as) = some (.inl Ys)) : ∃ y, zs8 len b (pc, lo, st, h) = some (.inl y) ∧ aGo S rf iv W E Ys (pc, lo, st, h) y := by
  obtain ⟨hs, -, hl, hst, hh⟩ := R
  simp only [aq8, ago] at h0
  split at h0
  · split at h0
    · rename_i q hq
      cases h0
      obtain ⟨u, sr, rfl, ⟨y, rfl, h2⟩, h3⟩ := aSt_cons hst
      obtain ⟨u, sr, rfl, ⟨x, rfl, h4⟩, h5⟩ := aSt_cons h3
      obtain ⟨hy, hg⟩ := adiv_ok hs h4 h2 hq
      refine ⟨(pc + len, lo, .int (zdv b x y) :: sr, h), ?_, aGo_int hg hl h5 hh⟩
      show (if y = 0 then none else _) = _
      rw [if_neg hy]
      cases b <;> rfl
    · cases h0
  · cases h0
theorem at_9 (R : aRel S rf iv E (cs, T, pc, al, as) (pc, lo, st, h)) (h0 : aq9 len b (cs, T, pc, al, as) = some (.inl Ys)) : ∃ y, zs9 len b (pc, lo, st, h) = some (.inl y) ∧ aGo S rf iv W E Ys (pc, lo, st, h) y := by
  obtain ⟨hs, -, hl, hst, hh⟩ := R
  simp only [aq9, ago] at h0
  split at h0
  · cases h0
    obtain ⟨u, sr, rfl, ⟨x, rfl, h2⟩, h3⟩ := aSt_cons hst
    exact ⟨_, rfl, aGo_int (aun_ok hs h2) hl h3 hh⟩
  · cases h0
theorem at_10 (R : aRel S rf iv E (cs, T, pc, al, as) (pc, lo, st, h)) (h0 : aq10 len (cs, T, pc, al, as) = some (.inl Ys)) : ∃ y, zs10 len (pc, lo, st, h) = some (.inl y) ∧ aGo S rf iv W E Ys (pc, lo, st, h) y := by
  obtain ⟨hs, -, hl, hst, hh⟩ := R
  simp only [aq10, ago] at h0
  split at h0
  · cases h0
    obtain ⟨u, sr, rfl, ⟨x, rfl, h2⟩, h3⟩ := aSt_cons hst
    exact ⟨_, rfl, aGo_one ⟨hs, rfl, hl, ⟨⟨x.toInt64, rfl, by rw [Int32.toInt_toInt64]; exact h2⟩, h3⟩, hh⟩⟩
  · cases h0
end AQ
