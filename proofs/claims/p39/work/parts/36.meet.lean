/-! CUTS: a whole state meets an annotation. -/
def amB (cs : aCs) : aCs → List aI → Bool
  | [], [] => true
  | q :: r, s :: sg => (aok cs s && (ile q.1 (abd cs s).1 && ile (abd cs s).2 q.2)) && amB cs r sg
  | _, _ => false
theorem amB_ok {E : List Int} {cs : aCs} (hs : aSat E cs) : ∀ {A : aCs} {sg : List aI}, amB cs A sg = true → aSat (sg.map (aval E)) A
  | [], [], _ => ⟨rfl, fun _ _ _ h => by cases h⟩
  | [], _ :: _, h => by cases h
  | _ :: _, [], h => by cases h
  | q1 :: r, s :: sg, h => by
    unfold amB at h
    rw [Bool.and_eq_true, Bool.and_eq_true, Bool.and_eq_true, ile_eq, ile_eq] at h
    obtain ⟨⟨g1, g2, g3⟩, g4⟩ := h
    obtain ⟨i1, i2⟩ := amB_ok hs g4
    refine ⟨congrArg Nat.succ i1, fun k w q hk hq => ?_⟩
    match k, hk, hq with
    | 0, hk, hq =>
      cases hk
      cases hq
      have b := abd_ok hs (aok_ok hs g1)
      omega
    | k + 1, hk, hq => exact i2 k w q hk hq
def ameet (sg : List aI) (A X : aX) : Bool := (amB X.1 A.1 sg && Nat.beq A.2.2.1 X.2.2.1) && (amL sg X.1 A.2.2.2.1 X.2.2.2.1 && (amS sg X.1 A.2.2.2.2 X.2.2.2.2 && amT sg X.1 X.2.1 A.2.1))
theorem ameet_ok {S : Nat → Option (Nat × Nat)} {rf : Nat → Nat → List Nat} {iv : Nat → Nat → Int × Int} {E : List Int} {sg : List aI} {A X : aX} {x : zC} (R : aRel S rf iv E X x) (h : ameet sg A X = true) : aRel S rf iv (sg.map (aval E)) A x := by
  obtain ⟨hs, hp, hl, hst, hh⟩ := R
  unfold ameet at h
  rw [Bool.and_eq_true, Bool.and_eq_true, Bool.and_eq_true, Bool.and_eq_true] at h
  obtain ⟨⟨c1, c2⟩, c3, c4, c5⟩ := h
  obtain ⟨l1, l2⟩ := amL_ok hs c3
  refine ⟨amB_ok hs c1, (Nat.eq_of_beq_eq_true c2).trans hp, ⟨hl.1.trans l1.symm, fun i a ha => ?_⟩, amS_ok hs hst c4, hh.1, fun o k a ha => ?_⟩
  · obtain ⟨b, b1, b2⟩ := l2 i a ha
    obtain ⟨v, v1, v2⟩ := hl.2 i b b1
    exact ⟨v, v1, b2 v v2⟩
  · obtain ⟨b, b1, b2⟩ := amT_ok c5 ha
    exact amI_ok hs (hh.2 o k b b1) b2
/-- the numbers for an annotation's entries, read off a state (how they are found is no part of the truth) -/
def asI (a b : aI) (sg : List (Nat × aI)) : List (Nat × aI) := match a with
  | .inl (k, off) => (k, aoff (-off) b) :: sg
  | .inr _ => sg
def asV (a b : aV) (sg : List (Nat × aI)) : List (Nat × aI) := match a, b with
  | .inl (.inl a), .inl (.inl b) => asI a b sg
  | .inl (.inr a), .inl (.inr b) => asI a b sg
  | _, _ => sg
def asS : List aV → List aV → List (Nat × aI) → List (Nat × aI)
  | a :: r, b :: s, sg => asV a b (asS r s sg)
  | _, _, sg => sg
def asL : List (Option aV) → List (Option aV) → List (Nat × aI) → List (Nat × aI)
  | some a :: r, some b :: s, sg => asV a b (asL r s sg)
  | _ :: r, _ :: s, sg => asL r s sg
  | _, _, sg => sg
def asT (T : aT) : aT → List (Nat × aI) → List (Nat × aI)
  | (o, k, a) :: r, sg => (match afind T o k with
    | some b => asI a b (asT T r sg)
    | none => asT T r sg)
  | [], sg => sg
def asF (l : List (Nat × aI)) (k : Nat) : aI := match l with
  | [] => .inr 0
  | (k', a) :: r => bif Nat.beq k' k then a else asF r k
def asg (A X : aX) : List aI :=
  let l := asL A.2.2.2.1 X.2.2.2.1 (asS A.2.2.2.2 X.2.2.2.2 (asT X.2.1 A.2.1 []))
  (List.range A.1.length).map (asF l)
def ameets (A X : aX) : Bool := ameet (asg A X) A X
theorem ameets_ok {S : Nat → Option (Nat × Nat)} {rf : Nat → Nat → List Nat} {iv : Nat → Nat → Int × Int} {E : List Int} {A X : aX} {x : zC} (R : aRel S rf iv E X x) (h : ameets A X = true) : ∃ E', aRel S rf iv E' A x := ⟨_, ameet_ok R h⟩
