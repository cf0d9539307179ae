/-! DIVISION, SIGNS, BOUNDS THAT A COMPARISON CUTS. -/
def adiv0 (cs : aCs) (b : Nat) (x y : aI) : Option (aCs × aI) :=
  bif decide (0 < (abd cs y).1) then some (match b with
    | 0 => (match y with
      | .inr d => anew cs ((abd cs x).1.tdiv d, (abd cs x).2.tdiv d)
      | _ => anew cs afull)
    | _ => bif decide (0 ≤ (abd cs x).1) then anew cs (0, (abd cs y).2 - 1) else anew cs (1 - (abd cs y).2, (abd cs y).2 - 1))
  else bif decide ((abd cs y).2 < 0) then some (anew cs afull) else none
def zdv (b : Nat) (x y : Int32) : Int32 := match b with
  | 0 => x / y
  | _ => x - x / y * y
theorem adiv0_ok {E : List Int} {cs : aCs} {b : Nat} {ax ay : aI} {x y : Int32} {r : aCs × aI} (hs : aSat E cs) (hx : aIs E x.toInt ax) (hy : aIs E y.toInt ay) (h : adiv0 cs b ax ay = some r) : ¬ y = 0 ∧ aGot E cs (zdv b x y).toInt r := by
  have bx := abd_ok hs hx
  have by' := abd_ok hs hy
  have z0 : (0 : Int32).toInt = 0 := rfl
  unfold adiv0 at h
  cases hc : decide (0 < (abd cs ay).1)
  · rw [hc] at h
    dsimp only [cond_false] at h
    cases hc2 : decide ((abd cs ay).2 < 0)
    · rw [hc2] at h; cases h
    · rw [hc2] at h
      rw [decide_eq_true_eq] at hc2
      cases h
      exact ⟨fun q => by rw [q, z0] at by'; omega, aGot_full hs⟩
  · rw [hc] at h
    rw [decide_eq_true_eq] at hc
    dsimp only [cond_true] at h
    refine ⟨fun q => by rw [q, z0] at by'; omega, ?_⟩
    cases b with
    | zero =>
      try dsimp only at h
      match ay, hy, by', hc, h with
      | .inr d, hy, by', hc, h =>
        cases h
        have hy : y.toInt = d := hy
        show aGot E cs (x / y).toInt _
        rw [na_div (by omega), hy]
        exact aGot_new hs (na_tdiv hc bx.1) (na_tdiv hc bx.2)
      | .inl (k, o), hy, by', hc, h =>
        cases h
        exact aGot_full hs
    | succ b =>
      try dsimp only at h
      have hb := na_remb (z := x.toInt) (c := y.toInt) (by omega)
      show aGot E cs (x - x / y * y).toInt _
      rw [na_rem]
      cases hc2 : decide (0 ≤ (abd cs ax).1)
      · rw [hc2] at h
        cases h
        exact aGot_new hs (by dsimp only; omega) (by dsimp only; omega)
      · rw [hc2] at h
        rw [decide_eq_true_eq] at hc2
        cases h
        have hr := na_rem0 (z := x.toInt) (c := y.toInt) (by omega) (by omega)
        exact aGot_new hs (by dsimp only; omega) (by dsimp only; omega)
/-- known numbers are divided at once -/
def adiv (cs : aCs) (b : Nat) (x y : aI) : Option (aCs × aI) := match x, y with
  | .inr c, .inr d => bif decide (Int32.ofInt d = 0) then none else some (cs, .inr (zdv b (Int32.ofInt c) (Int32.ofInt d)).toInt)
  | x, y => adiv0 cs b x y
theorem adiv_ok {E : List Int} {cs : aCs} {b : Nat} {ax ay : aI} {x y : Int32} {r : aCs × aI} (hs : aSat E cs) (hx : aIs E x.toInt ax) (hy : aIs E y.toInt ay) (h : adiv cs b ax ay = some r) : ¬ y = 0 ∧ aGot E cs (zdv b x y).toInt r := by
  match ax, ay, hx, hy, h with
  | .inr c, .inr d, hx, hy, h =>
    unfold adiv at h
    dsimp only at h
    rw [aof hx, aof hy] at h
    cases hc : decide (y = 0)
    · rw [hc] at h
      cases h
      rw [decide_eq_false_iff_not] at hc
      exact ⟨hc, aGot_old hs rfl⟩
    · rw [hc] at h
      cases h
  | .inl p, .inr d, hx, hy, h => exact adiv0_ok hs hx hy h
  | .inr c, .inl p, hx, hy, h => exact adiv0_ok hs hx hy h
  | .inl p, .inl q, hx, hy, h => exact adiv0_ok hs hx hy h
def aun (cs : aCs) (b : Nat) (x : aI) : aCs × aI := match b with
  | 0 => bif decide (-2147483647 ≤ (abd cs x).1) then anew cs (-(abd cs x).2, -(abd cs x).1) else anew cs afull
  | 1 => anew cs (-128, 127)
  | _ => anew cs (-32768, 32767)
theorem aun_ok {E : List Int} {cs : aCs} {b : Nat} {ax : aI} {x : Int32} (hs : aSat E cs) (hx : aIs E x.toInt ax) : aGot E cs (zun b x).toInt (aun cs b ax) := by
  have bx := abd_ok hs hx
  match b with
  | 0 =>
    show aGot E cs (-x).toInt (bif decide (-2147483647 ≤ (abd cs ax).1) then anew cs (-(abd cs ax).2, -(abd cs ax).1) else anew cs afull)
    cases hc : decide (-2147483647 ≤ (abd cs ax).1)
    · exact aGot_full hs
    · rw [decide_eq_true_eq] at hc
      rw [na_neg (by omega)]
      exact aGot_new hs (by dsimp only; omega) (by dsimp only; omega)
  | 1 => exact aGot_new hs (na_i8 x).1 (na_i8 x).2
  | _ + 2 => exact aGot_new hs (na_i16 x).1 (na_i16 x).2
/-- bounds cut; none where nothing is left -/
def arf2 (cs : aCs) (k : Nat) (l h : Int) : Option aCs := bif ile l h then some (zput cs k (l, h)) else none
def arf (cs : aCs) (a : aI) (q : Int × Int) : Option aCs := match a with
  | .inl (k, o) => (match zget cs k with
    | some p => arf2 cs k (imax p.1 (q.1 - o)) (imin p.2 (q.2 - o))
    | none => none)
  | .inr c => bif ile q.1 c && ile c q.2 then some cs else none
theorem arf_ok {E : List Int} {cs : aCs} {a : aI} {z : Int} {q : Int × Int} (hs : aSat E cs) (h : aIs E z a) (h1 : q.1 ≤ z) (h2 : z ≤ q.2) : ∃ cs', arf cs a q = some cs' ∧ aSat E cs' := by
  match a, h with
  | .inr c, h =>
    have h : z = c := h
    subst h
    refine ⟨cs, ?_, hs⟩
    unfold arf
    dsimp only
    rw [show (ile q.1 z && ile z q.2) = true by rw [Bool.and_eq_true, ile_eq, ile_eq]; exact ⟨h1, h2⟩]
    rfl
  | .inl (k, o), h =>
    obtain ⟨w, g1, g2⟩ := h
    have hl := zget_lt g1
    rw [hs.1] at hl
    obtain ⟨p, hp⟩ := zget_of_lt hl
    have hb := hs.2 k w p g1 hp
    have c1 : max p.1 (q.1 - o) ≤ w := Int.max_le.mpr ⟨hb.1, by omega⟩
    have c2 : w ≤ min p.2 (q.2 - o) := Int.le_min.mpr ⟨hb.2, by omega⟩
    refine ⟨zput cs k (max p.1 (q.1 - o), min p.2 (q.2 - o)), ?_, ?_, ?_⟩
    · unfold arf
      dsimp only
      rw [hp]
      dsimp only
      rw [imax_eq, imin_eq]
      unfold arf2
      rw [show ile (max p.1 (q.1 - o)) (min p.2 (q.2 - o)) = true by rw [ile_eq]; exact Int.le_trans c1 c2]
      rfl
    · rw [zput_length]
      exact hs.1
    · intro j u r e1 e2
      by_cases hj : j = k
      · subst hj
        rw [zget_put_eq _ _ _ hl] at e2
        cases e2
        rw [g1] at e1
        cases e1
        exact ⟨c1, c2⟩
      · rw [zget_put_ne _ _ _ _ hj] at e2
        exact hs.2 j u r e1 e2
def abig : Int := 36893488147419103232
/-- x < y -/
def alt (cs : aCs) (x y : aI) : Option aCs := match arf cs x (-abig, (abd cs y).2 - 1) with
  | some c1 => arf c1 y ((abd cs x).1 + 1, abig)
  | none => none
/-- x ≤ y -/
def ale (cs : aCs) (x y : aI) : Option aCs := match arf cs x (-abig, (abd cs y).2) with
  | some c1 => arf c1 y ((abd cs x).1, abig)
  | none => none
def aeq (cs : aCs) (x y : aI) : Option aCs := match arf cs x (abd cs y) with
  | some c1 => arf c1 y (abd cs x)
  | none => none
/-- x ≠ y: an end of x's bounds falls away, where y is a number at that end -/
def ane (cs : aCs) (x y : aI) : Option aCs := bif ieq (abd cs y).1 (abd cs y).2 then (bif ieq (abd cs x).1 (abd cs y).1 then arf cs x ((abd cs y).1 + 1, abig) else bif ieq (abd cs x).2 (abd cs y).1 then arf cs x (-abig, (abd cs y).1 - 1) else some cs) else some cs
section AC
variable {E : List Int} {cs : aCs} {ax ay : aI} {x y : Int}
theorem alt_ok (hs : aSat E cs) (hx : aIs E x ax) (hy : aIs E y ay) (hb : -abig ≤ x ∧ y ≤ abig) (h : x < y) : ∃ cs', alt cs ax ay = some cs' ∧ aSat E cs' := by
  have b1 := abd_ok hs hx
  have b2 := abd_ok hs hy
  obtain ⟨c1, e1, s1⟩ := arf_ok (q := (-abig, (abd cs ay).2 - 1)) hs hx hb.1 (by dsimp only; omega)
  obtain ⟨c2, e2, s2⟩ := arf_ok (q := ((abd cs ax).1 + 1, abig)) s1 hy (by dsimp only; omega) hb.2
  refine ⟨c2, ?_, s2⟩
  unfold alt
  rw [e1]
  exact e2
theorem ale_ok (hs : aSat E cs) (hx : aIs E x ax) (hy : aIs E y ay) (hb : -abig ≤ x ∧ y ≤ abig) (h : x ≤ y) : ∃ cs', ale cs ax ay = some cs' ∧ aSat E cs' := by
  have b1 := abd_ok hs hx
  have b2 := abd_ok hs hy
  obtain ⟨c1, e1, s1⟩ := arf_ok (q := (-abig, (abd cs ay).2)) hs hx hb.1 (by dsimp only; omega)
  obtain ⟨c2, e2, s2⟩ := arf_ok (q := ((abd cs ax).1, abig)) s1 hy (by dsimp only; omega) hb.2
  refine ⟨c2, ?_, s2⟩
  unfold ale
  rw [e1]
  exact e2
theorem aeq_ok (hs : aSat E cs) (hx : aIs E x ax) (hy : aIs E y ay) (h : x = y) : ∃ cs', aeq cs ax ay = some cs' ∧ aSat E cs' := by
  have b1 := abd_ok hs hx
  have b2 := abd_ok hs hy
  obtain ⟨c1, e1, s1⟩ := arf_ok (q := abd cs ay) hs hx (by omega) (by omega)
  obtain ⟨c2, e2, s2⟩ := arf_ok (q := abd cs ax) s1 hy (by omega) (by omega)
  refine ⟨c2, ?_, s2⟩
  unfold aeq
  rw [e1]
  exact e2
theorem ane_ok (hs : aSat E cs) (hx : aIs E x ax) (hy : aIs E y ay) (hb : -abig ≤ x ∧ x ≤ abig) (h : ¬ x = y) : ∃ cs', ane cs ax ay = some cs' ∧ aSat E cs' := by
  have b1 := abd_ok hs hx
  have b2 := abd_ok hs hy
  unfold ane
  cases d1 : ieq (abd cs ay).1 (abd cs ay).2
  · exact ⟨cs, rfl, hs⟩
  · rw [ieq_eq] at d1
    dsimp only [cond_true]
    cases d2 : ieq (abd cs ax).1 (abd cs ay).1
    · dsimp only [cond_false]
      cases d3 : ieq (abd cs ax).2 (abd cs ay).1
      · exact ⟨cs, rfl, hs⟩
      · rw [ieq_eq] at d3
        exact arf_ok hs hx hb.1 (by dsimp only; omega)
    · rw [ieq_eq] at d2
      exact arf_ok hs hx (by dsimp only; omega) hb.2
end AC
