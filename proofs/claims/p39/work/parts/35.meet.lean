/-! CUTS: a state meets an annotation by numbers given for its entries. -/
def aval (E : List Int) : aI → Int
  | .inl (k, off) => (match zget E k with
    | some w => w + off
    | none => off)
  | .inr n => n
theorem aval_eq {E : List Int} {z : Int} {a : aI} (h : aIs E z a) : aval E a = z := by
  match a, h with
  | .inl (k, off), h =>
    obtain ⟨w, h1, h2⟩ := h
    unfold aval
    dsimp only
    rw [h1]
    exact h2.symm
  | .inr n, h => exact h.symm
def aok (cs : aCs) : aI → Bool
  | .inl (k, _) => Nat.blt k cs.length
  | .inr _ => true
theorem aok_ok {E : List Int} {cs : aCs} {a : aI} (hs : aSat E cs) (h : aok cs a = true) : aIs E (aval E a) a := by
  match a, h with
  | .inl (k, off), h =>
    have h : k < cs.length := by
      have h : Nat.blt k cs.length = true := h
      rw [Nat.blt_eq] at h
      exact h
    rw [← hs.1] at h
    obtain ⟨w, hw⟩ := zget_of_lt h
    refine ⟨w, hw, ?_⟩
    unfold aval
    dsimp only
    rw [hw]
  | .inr n, _ => rfl
def aoff (off : Int) : aI → aI
  | .inl (k, o) => .inl (k, o + off)
  | .inr n => .inr (n + off)
def aeqI : aI → aI → Bool
  | .inl (k, o), .inl (k', o') => Nat.beq k k' && ieq o o'
  | .inr n, .inr n' => ieq n n'
  | _, _ => false
theorem aeqI_ok {a b : aI} (h : aeqI a b = true) : a = b := by
  match a, b, h with
  | .inl (k, o), .inl (k', o'), h =>
    have h : (Nat.beq k k' && ieq o o') = true := h
    rw [Bool.and_eq_true, ieq_eq] at h
    rw [Nat.eq_of_beq_eq_true h.1, h.2]
  | .inr n, .inr n', h =>
    have h : ieq n n' = true := h
    rw [ieq_eq] at h
    rw [h]
/-- an annotation's number against a state's -/
def amI (sg : List aI) (cs : aCs) (a b : aI) : Bool := match a with
  | .inl (k, off) => (match zget sg k with
    | some s => aeqI (aoff off s) b
    | none => false)
  | .inr n => ieq (abd cs b).1 n && ieq (abd cs b).2 n
theorem amI_ok {sg : List aI} {E : List Int} {cs : aCs} {a b : aI} {z : Int} (hs : aSat E cs) (hz : aIs E z b) (h : amI sg cs a b = true) : aIs (sg.map (aval E)) z a := by
  match a, h with
  | .inl (k, off), h =>
    unfold amI at h
    dsimp only at h
    split at h
    · rename_i s hk
      have e := aeqI_ok h
      subst e
      refine ⟨aval E s, by rw [zget_map, hk]; rfl, ?_⟩
      match s, hz with
      | .inl (k2, o2), hz =>
        obtain ⟨w, h1, h2⟩ := hz
        unfold aval
        dsimp only
        rw [h1]
        dsimp only
        omega
      | .inr n, hz => exact hz
    · cases h
  | .inr n, h =>
    have h : (ieq (abd cs b).1 n && ieq (abd cs b).2 n) = true := h
    rw [Bool.and_eq_true, ieq_eq, ieq_eq] at h
    have w := abd_ok hs hz
    show z = n
    omega
def amV (sg : List aI) (cs : aCs) : aV → aV → Bool
  | .inl (.inl a), .inl (.inl b) => amI sg cs a b
  | .inl (.inr a), .inl (.inr b) => amI sg cs a b
  | .inr l, .inr l' => l'.all l.elem
  | _, _ => false
theorem amV_ok {sg : List aI} {E : List Int} {cs : aCs} {a b : aV} {v : Value} (hs : aSat E cs) (hv : aVs E v b) (h : amV sg cs a b = true) : aVs (sg.map (aval E)) v a := by
  match a, b, h, hv with
  | .inl (.inl a), .inl (.inl b), h, ⟨x, e, hx⟩ => exact ⟨x, e, amI_ok hs hx h⟩
  | .inl (.inr a), .inl (.inr b), h, ⟨x, e, hx⟩ => exact ⟨x, e, amI_ok hs hx h⟩
  | .inr l, .inr l', h, ⟨o, e, ho⟩ => exact ⟨o, e, List.elem_iff.mp (List.all_eq_true.mp h o ho)⟩
def amS (sg : List aI) (cs : aCs) : List aV → List aV → Bool
  | [], [] => true
  | a :: r, b :: s => amV sg cs a b && amS sg cs r s
  | _, _ => false
theorem amS_ok {sg : List aI} {E : List Int} {cs : aCs} (hs : aSat E cs) : ∀ {as bs : List aV} {st : List Value}, aSt E st bs → amS sg cs as bs = true → aSt (sg.map (aval E)) st as
  | [], [], [], _, _ => trivial
  | [], [], _ :: _, h, _ => h.elim
  | [], _ :: _, _, _, h => by cases h
  | _ :: _, [], _, _, h => by cases h
  | a :: r, b :: s, [], h, _ => h.elim
  | a :: r, b :: s, v :: st, h, g => by
    unfold amS at g
    rw [Bool.and_eq_true] at g
    exact ⟨amV_ok hs h.1 g.1, amS_ok hs h.2 g.2⟩
def amL (sg : List aI) (cs : aCs) : List (Option aV) → List (Option aV) → Bool
  | [], [] => true
  | none :: r, _ :: s => amL sg cs r s
  | some a :: r, some b :: s => amV sg cs a b && amL sg cs r s
  | _, _ => false
theorem amL_ok {sg : List aI} {E : List Int} {cs : aCs} (hs : aSat E cs) : ∀ {as bs : List (Option aV)}, amL sg cs as bs = true → as.length = bs.length ∧ ∀ i a, zget as i = some (some a) → ∃ b, zget bs i = some (some b) ∧ ∀ v, aVs E v b → aVs (sg.map (aval E)) v a
  | [], [], _ => ⟨rfl, fun _ _ h => by cases h⟩
  | [], _ :: _, h => by cases h
  | none :: _, [], h => by cases h
  | some _ :: _, [], h => by cases h
  | none :: r, b :: s, h => by
    obtain ⟨g1, g2⟩ := amL_ok (as := r) (bs := s) hs h
    refine ⟨congrArg Nat.succ g1, fun i a ha => ?_⟩
    match i, ha with
    | 0, ha => cases ha
    | i + 1, ha => exact g2 i a ha
  | some _ :: _, none :: _, h => by cases h
  | some a1 :: r, some b1 :: s, h => by
    unfold amL at h
    rw [Bool.and_eq_true] at h
    obtain ⟨g1, g2⟩ := amL_ok (as := r) (bs := s) hs h.2
    refine ⟨congrArg Nat.succ g1, fun i a ha => ?_⟩
    match i, ha with
    | 0, ha =>
      cases ha
      exact ⟨b1, rfl, fun v hv => amV_ok hs hv h.1⟩
    | i + 1, ha => exact g2 i a ha
/-- the known contents that an annotation lists -/
def amT (sg : List aI) (cs : aCs) (T : aT) : aT → Bool
  | [] => true
  | (o, k, a) :: r => (match afind T o k with
    | some b => amI sg cs a b
    | none => false) && amT sg cs T r
theorem amT_ok {sg : List aI} {cs : aCs} {T : aT} : ∀ {A : aT} {o k : Nat} {a : aI}, amT sg cs T A = true → afind A o k = some a → ∃ b, afind T o k = some b ∧ amI sg cs a b = true
  | [], _, _, _, _, h => by cases h
  | (o1, k1, a1) :: r, o, k, a, h, g => by
    unfold amT at h
    rw [Bool.and_eq_true] at h
    unfold afind at g
    cases hb : (Nat.beq o1 o && Nat.beq k1 k)
    · rw [hb] at g
      exact amT_ok h.2 g
    · rw [hb] at g
      cases g
      rw [Bool.and_eq_true] at hb
      have e1 := Nat.eq_of_beq_eq_true hb.1
      have e2 := Nat.eq_of_beq_eq_true hb.2
      subst e1
      subst e2
      have h1 := h.1
      split at h1
      · rename_i b hf
        exact ⟨b, hf, h1⟩
      · cases h1
