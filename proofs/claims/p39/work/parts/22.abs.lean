/-! VALUES BY BOUNDS: an int or a long is a number, or an entry of an environment and an offset; a reference is one of some cells. -/
abbrev aI : Type := (Nat × Int) ⊕ Int
abbrev aV : Type := (aI ⊕ aI) ⊕ List Nat
abbrev aCs : Type := List (Int × Int)
abbrev aT : Type := List (Nat × Nat × aI)
def aIs (E : List Int) (z : Int) : aI → Prop
  | .inl (k, off) => ∃ w, zget E k = some w ∧ z = w + off
  | .inr n => z = n
def aVs (E : List Int) (v : Value) : aV → Prop
  | .inl (.inl a) => ∃ x, v = .int x ∧ aIs E x.toInt a
  | .inl (.inr a) => ∃ x, v = .long x ∧ aIs E x.toInt a
  | .inr l => ∃ o, v = .ref o ∧ o ∈ l
def aSat (E : List Int) (cs : aCs) : Prop := E.length = cs.length ∧ ∀ k w q, zget E k = some w → zget cs k = some q → q.1 ≤ w ∧ w ≤ q.2
def abd (cs : aCs) : aI → Int × Int
  | .inl (k, off) => (match zget cs k with
    | some q => (q.1 + off, q.2 + off)
    | none => (1, 0))
  | .inr n => (n, n)
theorem abd_ok {E : List Int} {cs : aCs} {z : Int} {a : aI} (hs : aSat E cs) (h : aIs E z a) : (abd cs a).1 ≤ z ∧ z ≤ (abd cs a).2 := by
  match a, h with
  | .inl (k, off), h =>
    obtain ⟨w, h1, h2⟩ := h
    have hl := zget_lt h1
    rw [hs.1] at hl
    obtain ⟨q, hq⟩ := zget_of_lt hl
    have hb := hs.2 k w q h1 hq
    unfold abd
    dsimp only
    rw [hq]
    dsimp only
    omega
  | .inr n, h =>
    have h : z = n := h
    subst h
    exact ⟨Int.le_refl _, Int.le_refl _⟩
theorem aIs_ext {E q : List Int} {z : Int} {a : aI} (h : aIs E z a) : aIs (E ++ q) z a := by
  match a, h with
  | .inl (k, off), h =>
    obtain ⟨w, h1, h2⟩ := h
    exact ⟨w, zget_app h1, h2⟩
  | .inr n, h => exact h
theorem aVs_ext {E q : List Int} {v : Value} {a : aV} (h : aVs E v a) : aVs (E ++ q) v a := by
  match a, h with
  | .inl (.inl a), h =>
    obtain ⟨x, h1, h2⟩ := h
    exact ⟨x, h1, aIs_ext h2⟩
  | .inl (.inr a), h =>
    obtain ⟨x, h1, h2⟩ := h
    exact ⟨x, h1, aIs_ext h2⟩
  | .inr l, h => exact h
theorem zget_end {α : Type} : ∀ (l : List α) (x : α), zget (l ++ [x]) l.length = some x
  | [], _ => rfl
  | _ :: l, x => zget_end l x
theorem aSat_ext {E : List Int} {cs : aCs} {w lo hi : Int} (hs : aSat E cs) (h1 : lo ≤ w) (h2 : w ≤ hi) : aSat (E ++ [w]) (cs ++ [(lo, hi)]) := by
  refine ⟨by simp [hs.1], fun k u q h3 h4 => ?_⟩
  rcases zget_new _ _ _ _ h3 with g | ⟨g, rfl⟩
  · rcases zget_new _ _ _ _ h4 with g2 | ⟨g2, rfl⟩
    · exact hs.2 k u q g g2
    · have := zget_lt g
      rw [hs.1] at this
      omega
  · rcases zget_new _ _ _ _ h4 with g2 | ⟨g2, rfl⟩
    · have := zget_lt g2
      rw [← hs.1] at this
      omega
    · exact ⟨h1, h2⟩
/-- a fresh entry -/
theorem aIs_new {E : List Int} {w : Int} : aIs (E ++ [w]) w (.inl (E.length, 0)) := ⟨w, zget_end E w, by omega⟩
def aSt (E : List Int) : List Value → List aV → Prop
  | [], [] => True
  | v :: r, a :: s => aVs E v a ∧ aSt E r s
  | _, _ => False
def aLo (E : List Int) (lo : List (Option Value)) (al : List (Option aV)) : Prop := lo.length = al.length ∧ ∀ i a, zget al i = some (some a) → ∃ v, zget lo i = some (some v) ∧ aVs E v a
theorem aSt_ext {E q : List Int} : ∀ {st : List Value} {as : List aV}, aSt E st as → aSt (E ++ q) st as
  | [], [], h => h
  | [], _ :: _, h => h.elim
  | _ :: _, [], h => h.elim
  | _ :: _, _ :: _, h => ⟨aVs_ext h.1, aSt_ext h.2⟩
theorem aLo_ext {E q : List Int} {lo : List (Option Value)} {al : List (Option aV)} (h : aLo E lo al) : aLo (E ++ q) lo al :=
  ⟨h.1, fun i a ha => by
    obtain ⟨v, h1, h2⟩ := h.2 i a ha
    exact ⟨v, h1, aVs_ext h2⟩⟩
def afind : aT → Nat → Nat → Option aI
  | [], _, _ => none
  | (o', k', v) :: r, o, k => bif Nat.beq o' o && Nat.beq k' k then some v else afind r o k
/-- the shapes that are known (tag 9: not known) -/
def aShp (S : Nat → Option (Nat × Nat)) (g : List (Nat × Nat)) : Prop := ∀ o t m, S o = some (t, m) → Nat.beq t 9 = false → zget g o = some (t, m)
/-- each reference is one of some cells -/
def aRf (rf : Nat → Nat → List Nat) (g : Nat → Nat → Option Nat) : Prop := ∀ o k, rf o k ≠ [] → ∃ q, g o k = some q ∧ q ∈ rf o k
/-- the cells: their shapes, their references, bounds of every int -/
def aInv (S : Nat → Option (Nat × Nat)) (rf : Nat → Nat → List Nat) (iv : Nat → Nat → Int × Int) (h : zH) : Prop := aShp S h.1 ∧ aRf rf h.2.2.2 ∧ ∀ o k, (iv o k).1 ≤ (h.2.1 o k).toInt ∧ (h.2.1 o k).toInt ≤ (iv o k).2
def aHp (S : Nat → Option (Nat × Nat)) (rf : Nat → Nat → List Nat) (iv : Nat → Nat → Int × Int) (E : List Int) (T : aT) (h : zH) : Prop := aInv S rf iv h ∧ ∀ o k a, afind T o k = some a → aIs E (h.2.1 o k).toInt a
theorem aHp_ext {S : Nat → Option (Nat × Nat)} {rf : Nat → Nat → List Nat} {iv : Nat → Nat → Int × Int} {E q : List Int} {T : aT} {h : zH} (hh : aHp S rf iv E T h) : aHp S rf iv (E ++ q) T h := ⟨hh.1, fun o k a ha => aIs_ext (hh.2 o k a ha)⟩
/-- a known content is listed -/
theorem aHp_note {S : Nat → Option (Nat × Nat)} {rf : Nat → Nat → List Nat} {iv : Nat → Nat → Int × Int} {E : List Int} {T : aT} {h : zH} {o k : Nat} {a : aI} (hh : aHp S rf iv E T h) (ha : aIs E (h.2.1 o k).toInt a) : aHp S rf iv E ((o, k, a) :: T) h := by
  refine ⟨hh.1, fun o' k' a' h' => ?_⟩
  unfold afind at h'
  cases hb : (Nat.beq o o' && Nat.beq k k')
  · rw [hb] at h'
    exact hh.2 o' k' a' h'
  · rw [hb] at h'
    rw [Bool.and_eq_true] at hb
    have e1 := Nat.eq_of_beq_eq_true hb.1
    have e2 := Nat.eq_of_beq_eq_true hb.2
    subst e1
    subst e2
    cases h'
    exact ha
/-- a cell is written: what is listed of it is the new value -/
theorem aHp_put {S : Nat → Option (Nat × Nat)} {rf : Nat → Nat → List Nat} {iv : Nat → Nat → Int × Int} {E : List Int} {T : aT} {h : zH} {o k : Nat} {a : aI} {x : Int32} (hh : aHp S rf iv E T h) (ha : aIs E x.toInt a) (h1 : (iv o k).1 ≤ x.toInt) (h2 : x.toInt ≤ (iv o k).2) : aHp S rf iv E ((o, k, a) :: T) (h.1, zup h.2.1 o k x, h.2.2.1, h.2.2.2) := by
  refine ⟨⟨hh.1.1, hh.1.2.1, fun o' k' => ?_⟩, fun o' k' a' h' => ?_⟩
  · by_cases hq : o' = o ∧ k' = k
    · obtain ⟨rfl, rfl⟩ := hq
      dsimp only
      rw [zsame_up]
      exact ⟨h1, h2⟩
    · dsimp only
      rw [zne_up hq]
      exact hh.1.2.2 o' k'
  · unfold afind at h'
    by_cases hq : o' = o ∧ k' = k
    · obtain ⟨rfl, rfl⟩ := hq
      rw [Nat.beq_refl, Nat.beq_refl] at h'
      cases h'
      dsimp only
      rw [zsame_up]
      exact ha
    · have hb : (Nat.beq o o' && Nat.beq k k') = false := by
        cases hb : (Nat.beq o o' && Nat.beq k k')
        · rfl
        · rw [Bool.and_eq_true] at hb
          exact absurd ⟨(Nat.eq_of_beq_eq_true hb.1).symm, (Nat.eq_of_beq_eq_true hb.2).symm⟩ hq
      rw [hb] at h'
      dsimp only
      rw [zne_up hq]
      exact hh.2 o' k' a' h'
