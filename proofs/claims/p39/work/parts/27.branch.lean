/-! STEPS BY BOUNDS: longs, comparisons, branches, switches, the stack. -/
def alfull : Int × Int := (-9223372036854775808, 9223372036854775807)
def aq11 (len : Nat) : aX → Option aR := fun (cs, T, pc, al, st) => match st with
  | .inl (.inr x) :: r => bif aok32 (abd cs x) then ago (cs, T, pc + len, al, .inl (.inl x) :: r) else ago ((anew cs afull).1, T, pc + len, al, .inl (.inl (anew cs afull).2) :: r)
  | _ => none
def aq12 (len : Nat) : aX → Option aR := fun (cs, T, pc, al, st) => match st with
  | .inl (.inr _) :: .inl (.inr _) :: r => ago ((anew cs alfull).1, T, pc + len, al, .inl (.inr (anew cs alfull).2) :: r)
  | _ => none
def aq13 (len : Nat) : aX → Option aR := fun (cs, T, pc, al, st) => match st with
  | .inl (.inl _) :: .inl (.inr _) :: r => ago ((anew cs alfull).1, T, pc + len, al, .inl (.inr (anew cs alfull).2) :: r)
  | _ => none
/-- a way that is open, or none -/
def aopt (f : aCs → aX) : Option aCs → List aX
  | some cs => [f cs]
  | none => []
def aq14 (len : Nat) : aX → Option aR := fun (cs, T, pc, al, st) => match st with
  | .inl (.inr y) :: .inl (.inr x) :: r => some (.inl (aopt (fun c => (c, T, pc + len, al, .inl (.inl (.inr (-1))) :: r)) (alt cs x y) ++ (aopt (fun c => (c, T, pc + len, al, .inl (.inl (.inr 0)) :: r)) (aeq cs x y) ++ aopt (fun c => (c, T, pc + len, al, .inl (.inl (.inr 1)) :: r)) (alt cs y x))))
  | _ => none
/-- what a condition leaves open: it holds, it doesn't -/
def acmp (cs : aCs) (b : Nat) (x y : aI) : Option aCs × Option aCs := match b with
  | 0 => (aeq cs x y, ane cs x y)
  | 1 => (ane cs x y, aeq cs x y)
  | 2 => (alt cs x y, ale cs y x)
  | 3 => (ale cs y x, alt cs x y)
  | 4 => (alt cs y x, ale cs x y)
  | _ => (ale cs x y, alt cs y x)
def aq15 (len a b : Nat) : aX → Option aR := fun (cs, T, pc, al, st) => match st with
  | .inl (.inl x) :: r => some (.inl (aopt (fun c => (c, T, a, al, r)) (acmp cs b x (.inr 0)).1 ++ aopt (fun c => (c, T, pc + len, al, r)) (acmp cs b x (.inr 0)).2))
  | _ => none
def aq16 (len a b : Nat) : aX → Option aR := fun (cs, T, pc, al, st) => match st with
  | .inl (.inl y) :: .inl (.inl x) :: r => some (.inl (aopt (fun c => (c, T, a, al, r)) (acmp cs b x y).1 ++ aopt (fun c => (c, T, pc + len, al, r)) (acmp cs b x y).2))
  | _ => none
def aq17 (a : Nat) : aX → Option aR := fun (cs, T, _, al, st) => ago (cs, T, a, al, st)
def aswk (cs : aCs) (T : aT) (al : List (Option aV)) (x : aI) (r : List aV) : List (Int32 × Nat) → List aX
  | [] => []
  | (k, t) :: s => aopt (fun c => (c, T, t, al, r)) (aeq cs x (.inr k.toInt)) ++ aswk cs T al x r s
/-- a known number that is told -/
def aswd (q : Int × Int) : List (Int32 × Nat) → Bool
  | [] => false
  | (k, _) :: s => (ieq q.1 k.toInt && ieq q.2 k.toInt) || aswd q s
def aq18 (a : Nat) (sw : List (Int32 × Nat)) : aX → Option aR := fun (cs, T, _, al, st) => match st with
  | .inl (.inl x) :: r => some (.inl (aswk cs T al x r sw ++ (bif aswd (abd cs x) sw then [] else [(cs, T, a, al, r)])))
  | _ => none
def aq19 (len a : Nat) (v : Value) : aX → Option aR := fun (cs, T, pc, al, st) => match zget al a, v with
  | some (some (.inl (.inl i))), .int k => ago ((abin cs 0 i (.inr k.toInt)).1, T, pc + len, ast1 al a (.inl (.inl (abin cs 0 i (.inr k.toInt)).2)), st)
  | _, _ => none
def aisL : aV → Bool
  | .inl (.inr _) => true
  | _ => false
def aq39 (len : Nat) : aX → Option aR := fun (cs, T, pc, al, st) => match st with
  | v :: r => bif aisL v then none else ago (cs, T, pc + len, al, v :: v :: r)
  | _ => none
def aq40 (len : Nat) : aX → Option aR := fun (cs, T, pc, al, st) => match st with
  | v :: w :: r => bif aisL v || aisL w then none else ago (cs, T, pc + len, al, v :: w :: v :: r)
  | _ => none
def aq41 (len : Nat) : aX → Option aR := fun (cs, T, pc, al, st) => match st with
  | v :: w :: r => bif aisL v || aisL w then none else ago (cs, T, pc + len, al, v :: w :: v :: w :: r)
  | _ => none
def aq42 (len : Nat) : aX → Option aR := fun (cs, T, pc, al, st) => match st with
  | v :: r => bif aisL v then none else ago (cs, T, pc + len, al, r)
  | _ => none
def aq44 (len : Nat) : aX → Option aR := fun (cs, T, pc, al, st) => match st with
  | v :: r => bif aisL v then ago (cs, T, pc + len, al, r) else none
  | _ => none
def aq43 (len a : Nat) : aX → Option aR := fun (cs, T, pc, al, st) => ago (cs, T, pc + len, al, .inr [a] :: st)
section AR
variable {S : Nat → Option (Nat × Nat)} {rf : Nat → Nat → List Nat} {iv : Nat → Nat → Int × Int} {W : Nat → Nat → Bool} {E : List Int} {cs : aCs} {T : aT} {al : List (Option aV)} {as : List aV} {pc len a b : Nat} {v : Value} {sw : List (Int32 × Nat)} {lo : List (Option Value)} {st : List Value} {h : zH} {Ys : List aX}
theorem aGo_long {r : aCs × aI} {z : Int64} {ar : List aV} {sr : List Value} {pc' : Nat} (hg : aGot E cs z.toInt r) (hl : aLo E lo al) (hst : aSt E sr ar) (hh : aHp S rf iv E T h) : aGo S rf iv W E [(r.1, T, pc', al, .inl (.inr r.2) :: ar)] (pc, lo, st, h) (pc', lo, .long z :: sr, h) := by
  obtain ⟨q, g1, g2⟩ := hg
  exact ⟨⟨q, _, List.mem_singleton.mpr rfl, g1, rfl, aLo_ext hl, ⟨⟨z, rfl, g2⟩, aSt_ext hst⟩, aHp_ext hh⟩, fun _ _ _ => rfl⟩
theorem aGot_fullL {x : Int64} (hs : aSat E cs) : aGot E cs x.toInt (anew cs alfull) := aGot_new hs (na_rngL x).1 (na_rngL x).2
/-- one of several ways -/
theorem aGo_in {Y : aX} {lo' : List (Option Value)} {st' : List Value} {pc' : Nat} (hY : Y ∈ Ys) (R : aRel S rf iv E Y (pc', lo', st', h)) : aGo S rf iv W E Ys (pc, lo, st, h) (pc', lo', st', h) := ⟨⟨[], Y, hY, by rw [List.append_nil]; exact R⟩, fun _ _ _ => rfl⟩
theorem aopt_in {f : aCs → aX} {o : Option aCs} {c : aCs} (h : o = some c) : f c ∈ aopt f o := by
  subst h
  exact List.mem_singleton.mpr rfl
theorem at_11 (R : aRel S rf iv E (cs, T, pc, al, as) (pc, lo, st, h)) (h0 : aq11 len (cs, T, pc, al, as) = some (.inl Ys)) : ∃ y, zs11 len (pc, lo, st, h) = some (.inl y) ∧ aGo S rf iv W E Ys (pc, lo, st, h) y := by
  obtain ⟨hs, -, hl, hst, hh⟩ := R
  simp only [aq11, ago] at h0
  split at h0
  · rename_i ax r
    obtain ⟨u, sr, rfl, ⟨x, rfl, h2⟩, h3⟩ := aSt_cons hst
    cases hb : aok32 (abd cs ax)
    · rw [hb] at h0
      cases h0
      exact ⟨_, rfl, aGo_int (aGot_full hs) hl h3 hh⟩
    · rw [hb] at h0
      cases h0
      have q1 := aok32_ok hb
      have q2 := abd_ok (cs := cs) hs h2
      have e : x.toInt32.toInt = x.toInt := by
        rw [Int64.toInt_toInt32, na_bmod (by omega) (by omega)]
      exact ⟨_, rfl, aGo_one ⟨hs, rfl, hl, ⟨⟨x.toInt32, rfl, by rw [e]; exact h2⟩, h3⟩, hh⟩⟩
  · cases h0
theorem at_12 (R : aRel S rf iv E (cs, T, pc, al, as) (pc, lo, st, h)) (h0 : aq12 len (cs, T, pc, al, as) = some (.inl Ys)) : ∃ y, zs12 len b (pc, lo, st, h) = some (.inl y) ∧ aGo S rf iv W E Ys (pc, lo, st, h) y := by
  obtain ⟨hs, -, hl, hst, hh⟩ := R
  simp only [aq12, ago] at h0
  split at h0
  · cases h0
    obtain ⟨u, sr, rfl, ⟨y, rfl, h2⟩, h3⟩ := aSt_cons hst
    obtain ⟨u, sr, rfl, ⟨x, rfl, h4⟩, h5⟩ := aSt_cons h3
    exact ⟨_, rfl, aGo_long (aGot_fullL hs) hl h5 hh⟩
  · cases h0
theorem at_13 (R : aRel S rf iv E (cs, T, pc, al, as) (pc, lo, st, h)) (h0 : aq13 len (cs, T, pc, al, as) = some (.inl Ys)) : ∃ y, zs13 len (pc, lo, st, h) = some (.inl y) ∧ aGo S rf iv W E Ys (pc, lo, st, h) y := by
  obtain ⟨hs, -, hl, hst, hh⟩ := R
  simp only [aq13, ago] at h0
  split at h0
  · cases h0
    obtain ⟨u, sr, rfl, ⟨y, rfl, h2⟩, h3⟩ := aSt_cons hst
    obtain ⟨u, sr, rfl, ⟨x, rfl, h4⟩, h5⟩ := aSt_cons h3
    exact ⟨_, rfl, aGo_long (aGot_fullL hs) hl h5 hh⟩
  · cases h0
theorem abig_in (x : Int64) : -abig ≤ x.toInt ∧ x.toInt ≤ abig := by
  have := na_rngL x
  unfold abig
  omega
theorem abig_in32 (x : Int32) : -abig ≤ x.toInt ∧ x.toInt ≤ abig := by
  have := na_rng x
  unfold abig
  omega
theorem at_14 (R : aRel S rf iv E (cs, T, pc, al, as) (pc, lo, st, h)) (h0 : aq14 len (cs, T, pc, al, as) = some (.inl Ys)) : ∃ y, zs14 len (pc, lo, st, h) = some (.inl y) ∧ aGo S rf iv W E Ys (pc, lo, st, h) y := by
  obtain ⟨hs, -, hl, hst, hh⟩ := R
  simp only [aq14] at h0
  split at h0
  · cases h0
    obtain ⟨u, sr, rfl, ⟨y, rfl, h2⟩, h3⟩ := aSt_cons hst
    obtain ⟨u, sr, rfl, ⟨x, rfl, h4⟩, h5⟩ := aSt_cons h3
    refine ⟨_, rfl, ?_⟩
    rcases Int.lt_trichotomy x.toInt y.toInt with q | q | q
    · obtain ⟨c, e1, e2⟩ := alt_ok hs h4 h2 ⟨(abig_in x).1, (abig_in y).2⟩ q
      have n1 : ¬ x > y := fun w => by have := Int64.lt_iff_toInt_lt.mp w; omega
      have n2 : ¬ x = y := fun w => by rw [w] at q; omega
      have e3 : lg_cmp x y = -1 := by unfold lg_cmp; rw [if_neg n1, if_neg n2]
      rw [e3]
      exact aGo_in (List.mem_append_left _ (aopt_in e1)) ⟨e2, rfl, hl, ⟨⟨-1, rfl, rfl⟩, h5⟩, hh⟩
    · obtain ⟨c, e1, e2⟩ := aeq_ok hs h4 h2 q
      have n2 : x = y := Int64.toInt_inj.mp q
      have n1 : ¬ x > y := fun w => by have := Int64.lt_iff_toInt_lt.mp w; omega
      have e3 : lg_cmp x y = 0 := by unfold lg_cmp; rw [if_neg n1, if_pos n2]
      rw [e3]
      exact aGo_in (List.mem_append_right _ (List.mem_append_left _ (aopt_in e1))) ⟨e2, rfl, hl, ⟨⟨0, rfl, rfl⟩, h5⟩, hh⟩
    · obtain ⟨c, e1, e2⟩ := alt_ok hs h2 h4 ⟨(abig_in y).1, (abig_in x).2⟩ q
      have e3 : lg_cmp x y = 1 := by unfold lg_cmp; rw [if_pos (Int64.lt_iff_toInt_lt.mpr q)]
      rw [e3]
      exact aGo_in (List.mem_append_right _ (List.mem_append_right _ (aopt_in e1))) ⟨e2, rfl, hl, ⟨⟨1, rfl, rfl⟩, h5⟩, hh⟩
  · cases h0
/-- a condition, and the way that it takes -/
theorem acmp_ok {ax ay : aI} {x y : Int32} {t n : Nat} (hs : aSat E cs) (hx : aIs E x.toInt ax) (hy : aIs E y.toInt ay) : (∃ c, (acmp cs b ax ay).1 = some c ∧ aSat E c ∧ zicmp b x y t n = t) ∨ ∃ c, (acmp cs b ax ay).2 = some c ∧ aSat E c ∧ zicmp b x y t n = n := by
  have bx := abig_in32 x
  have by' := abig_in32 y
  have ieq : x = y ↔ x.toInt = y.toInt := Int32.toInt_inj.symm
  match b with
  | 0 =>
    by_cases q : x = y
    · obtain ⟨c, e1, e2⟩ := aeq_ok hs hx hy (ieq.mp q)
      exact Or.inl ⟨c, e1, e2, if_pos q⟩
    · obtain ⟨c, e1, e2⟩ := ane_ok hs hx hy bx (fun w => q (ieq.mpr w))
      exact Or.inr ⟨c, e1, e2, if_neg q⟩
  | 1 =>
    by_cases q : x = y
    · obtain ⟨c, e1, e2⟩ := aeq_ok hs hx hy (ieq.mp q)
      exact Or.inr ⟨c, e1, e2, if_pos q⟩
    · obtain ⟨c, e1, e2⟩ := ane_ok hs hx hy bx (fun w => q (ieq.mpr w))
      exact Or.inl ⟨c, e1, e2, if_neg q⟩
  | 2 =>
    by_cases q : x < y
    · obtain ⟨c, e1, e2⟩ := alt_ok hs hx hy ⟨bx.1, by'.2⟩ (Int32.lt_iff_toInt_lt.mp q)
      exact Or.inl ⟨c, e1, e2, if_pos q⟩
    · obtain ⟨c, e1, e2⟩ := ale_ok hs hy hx ⟨by'.1, bx.2⟩ (Int32.le_iff_toInt_le.mp (Int32.not_lt.mp q))
      exact Or.inr ⟨c, e1, e2, if_neg q⟩
  | 3 =>
    by_cases q : x < y
    · obtain ⟨c, e1, e2⟩ := alt_ok hs hx hy ⟨bx.1, by'.2⟩ (Int32.lt_iff_toInt_lt.mp q)
      exact Or.inr ⟨c, e1, e2, if_pos q⟩
    · obtain ⟨c, e1, e2⟩ := ale_ok hs hy hx ⟨by'.1, bx.2⟩ (Int32.le_iff_toInt_le.mp (Int32.not_lt.mp q))
      exact Or.inl ⟨c, e1, e2, if_neg q⟩
  | 4 =>
    by_cases q : y < x
    · obtain ⟨c, e1, e2⟩ := alt_ok hs hy hx ⟨by'.1, bx.2⟩ (Int32.lt_iff_toInt_lt.mp q)
      exact Or.inl ⟨c, e1, e2, if_pos q⟩
    · obtain ⟨c, e1, e2⟩ := ale_ok hs hx hy ⟨bx.1, by'.2⟩ (Int32.le_iff_toInt_le.mp (Int32.not_lt.mp q))
      exact Or.inr ⟨c, e1, e2, if_neg q⟩
  | _ + 5 =>
    by_cases q : y < x
    · obtain ⟨c, e1, e2⟩ := alt_ok hs hy hx ⟨by'.1, bx.2⟩ (Int32.lt_iff_toInt_lt.mp q)
      exact Or.inr ⟨c, e1, e2, if_pos q⟩
    · obtain ⟨c, e1, e2⟩ := ale_ok hs hx hy ⟨bx.1, by'.2⟩ (Int32.le_iff_toInt_le.mp (Int32.not_lt.mp q))
      exact Or.inl ⟨c, e1, e2, if_neg q⟩
theorem at_15 (R : aRel S rf iv E (cs, T, pc, al, as) (pc, lo, st, h)) (h0 : aq15 len a b (cs, T, pc, al, as) = some (.inl Ys)) : ∃ y, zs15 len a b (pc, lo, st, h) = some (.inl y) ∧ aGo S rf iv W E Ys (pc, lo, st, h) y := by
  obtain ⟨hs, -, hl, hst, hh⟩ := R
  simp only [aq15] at h0
  split at h0
  · cases h0
    obtain ⟨u, sr, rfl, ⟨x, rfl, h2⟩, h3⟩ := aSt_cons hst
    refine ⟨_, rfl, ?_⟩
    rw [zif_icmp]
    rcases acmp_ok (b := b) (t := a) (n := pc + len) (y := 0) (ay := .inr 0) hs h2 rfl with ⟨c, e1, e2, e3⟩ | ⟨c, e1, e2, e3⟩
    · rw [e3]
      exact aGo_in (List.mem_append_left _ (aopt_in e1)) ⟨e2, rfl, hl, h3, hh⟩
    · rw [e3]
      exact aGo_in (List.mem_append_right _ (aopt_in e1)) ⟨e2, rfl, hl, h3, hh⟩
  · cases h0
theorem at_16 (R : aRel S rf iv E (cs, T, pc, al, as) (pc, lo, st, h)) (h0 : aq16 len a b (cs, T, pc, al, as) = some (.inl Ys)) : ∃ y, zs16 len a b (pc, lo, st, h) = some (.inl y) ∧ aGo S rf iv W E Ys (pc, lo, st, h) y := by
  obtain ⟨hs, -, hl, hst, hh⟩ := R
  simp only [aq16] at h0
  split at h0
  · cases h0
    obtain ⟨u, sr, rfl, ⟨y, rfl, h2⟩, h3⟩ := aSt_cons hst
    obtain ⟨u, sr, rfl, ⟨x, rfl, h4⟩, h5⟩ := aSt_cons h3
    refine ⟨_, rfl, ?_⟩
    rcases acmp_ok (b := b) (t := a) (n := pc + len) hs h4 h2 with ⟨c, e1, e2, e3⟩ | ⟨c, e1, e2, e3⟩
    · rw [e3]
      exact aGo_in (List.mem_append_left _ (aopt_in e1)) ⟨e2, rfl, hl, h5, hh⟩
    · rw [e3]
      exact aGo_in (List.mem_append_right _ (aopt_in e1)) ⟨e2, rfl, hl, h5, hh⟩
  · cases h0
theorem at_17 (R : aRel S rf iv E (cs, T, pc, al, as) (pc, lo, st, h)) (h0 : aq17 a (cs, T, pc, al, as) = some (.inl Ys)) : ∃ y, zs17 a (pc, lo, st, h) = some (.inl y) ∧ aGo S rf iv W E Ys (pc, lo, st, h) y := by
  obtain ⟨hs, -, hl, hst, hh⟩ := R
  cases h0
  exact ⟨_, rfl, aGo_one ⟨hs, rfl, hl, hst, hh⟩⟩
theorem aswk_ok {ax : aI} {x : Int32} {r : List aV} {sr : List Value} {d : Nat} (hs : aSat E cs) (hx : aIs E x.toInt ax) (hl : aLo E lo al) (hr : aSt E sr r) (hh : aHp S rf iv E T h) : ∀ {sw : List (Int32 × Nat)}, zsw x sw d = d ∨ ∃ Y ∈ aswk cs T al ax r sw, aRel S rf iv E Y (zsw x sw d, lo, sr, h)
  | [] => Or.inl rfl
  | (k, t) :: s => by
    unfold zsw aswk
    by_cases q : x = k
    · rw [if_pos q]
      obtain ⟨c, e1, e2⟩ := aeq_ok (ay := .inr k.toInt) hs hx rfl (by rw [q])
      exact Or.inr ⟨_, List.mem_append_left _ (aopt_in e1), e2, rfl, hl, hr, hh⟩
    · rw [if_neg q]
      rcases aswk_ok (d := d) hs hx hl hr hh (sw := s) with g | ⟨Y, g1, g2⟩
      · exact Or.inl g
      · exact Or.inr ⟨Y, List.mem_append_right _ g1, g2⟩
theorem aswd_ok {ax : aI} {x : Int32} {r : List aV} {sr : List Value} {d : Nat} (hs : aSat E cs) (hx : aIs E x.toInt ax) (hl : aLo E lo al) (hr : aSt E sr r) (hh : aHp S rf iv E T h) : ∀ {sw : List (Int32 × Nat)}, aswd (abd cs ax) sw = true → ∃ Y ∈ aswk cs T al ax r sw, aRel S rf iv E Y (zsw x sw d, lo, sr, h)
  | [], g => by cases g
  | (k, t) :: s, g => by
    unfold zsw aswk
    by_cases q : x = k
    · rw [if_pos q]
      obtain ⟨c, e1, e2⟩ := aeq_ok (ay := .inr k.toInt) hs hx rfl (by rw [q])
      exact ⟨_, List.mem_append_left _ (aopt_in e1), e2, rfl, hl, hr, hh⟩
    · rw [if_neg q]
      unfold aswd at g
      rw [Bool.or_eq_true, Bool.and_eq_true, ieq_eq, ieq_eq] at g
      rcases g with g | g
      · have b := abd_ok hs hx
        exact absurd (Int32.toInt_inj.mp (show x.toInt = k.toInt by omega)) q
      · obtain ⟨Y, g1, g2⟩ := aswd_ok (d := d) hs hx hl hr hh g
        exact ⟨Y, List.mem_append_right _ g1, g2⟩
theorem at_18 (R : aRel S rf iv E (cs, T, pc, al, as) (pc, lo, st, h)) (h0 : aq18 a sw (cs, T, pc, al, as) = some (.inl Ys)) : ∃ y, zs18 a sw (pc, lo, st, h) = some (.inl y) ∧ aGo S rf iv W E Ys (pc, lo, st, h) y := by
  obtain ⟨hs, -, hl, hst, hh⟩ := R
  simp only [aq18] at h0
  split at h0
  · cases h0
    obtain ⟨u, sr, rfl, ⟨x, rfl, h2⟩, h3⟩ := aSt_cons hst
    refine ⟨_, rfl, ?_⟩
    rename_i ax r
    cases hd : aswd (abd cs ax) sw
    · rcases aswk_ok (d := a) (sw := sw) hs h2 hl h3 hh with g | ⟨Y, g1, g2⟩
      · rw [g]
        exact aGo_in (List.mem_append_right _ (List.mem_singleton.mpr rfl)) ⟨hs, rfl, hl, h3, hh⟩
      · exact aGo_in (List.mem_append_left _ g1) g2
    · obtain ⟨Y, g1, g2⟩ := aswd_ok (d := a) hs h2 hl h3 hh hd
      exact aGo_in (List.mem_append_left _ g1) g2
  · cases h0
theorem at_19 (R : aRel S rf iv E (cs, T, pc, al, as) (pc, lo, st, h)) (h0 : aq19 len a v (cs, T, pc, al, as) = some (.inl Ys)) : ∃ y, zs19 len a v (pc, lo, st, h) = some (.inl y) ∧ aGo S rf iv W E Ys (pc, lo, st, h) y := by
  obtain ⟨hs, -, hl, hst, hh⟩ := R
  simp only [aq19, ago] at h0
  split at h0
  · rename_i i k hg
    cases h0
    obtain ⟨u, h1, x, rfl, h2⟩ := hl.2 a _ hg
    obtain ⟨q, g1, g2⟩ := abin_ok (b := 0) (y := k) (ay := .inr k.toInt) hs h2 rfl
    refine ⟨(pc + len, zst1 lo a (.int (x + k)), st, h), ?_, ⟨q, _, List.mem_singleton.mpr rfl, g1, rfl, aLo_st1 (aLo_ext hl) ⟨x + k, rfl, g2⟩, aSt_ext hst, aHp_ext hh⟩, fun _ _ _ => rfl⟩
    simp only [zs19]
    rw [h1]
    rfl
  · cases h0
theorem aisL_ok {u : Value} {a : aV} (h : aVs E u a) : zlong u = aisL a := by
  match a, h with
  | .inl (.inl a), h =>
    obtain ⟨x, rfl, -⟩ := h
    rfl
  | .inl (.inr a), h =>
    obtain ⟨x, rfl, -⟩ := h
    rfl
  | .inr l, h =>
    obtain ⟨x, rfl, -⟩ := h
    rfl
theorem at_39 (R : aRel S rf iv E (cs, T, pc, al, as) (pc, lo, st, h)) (h0 : aq39 len (cs, T, pc, al, as) = some (.inl Ys)) : ∃ y, zs39 len (pc, lo, st, h) = some (.inl y) ∧ aGo S rf iv W E Ys (pc, lo, st, h) y := by
  obtain ⟨hs, -, hl, hst, hh⟩ := R
  simp only [aq39, ago] at h0
  split at h0
  · rename_i w r
    obtain ⟨u, sr, rfl, h2, h3⟩ := aSt_cons hst
    cases hb : aisL w
    · rw [hb] at h0
      cases h0
      refine ⟨(pc + len, lo, u :: u :: sr, h), ?_, aGo_one ⟨hs, rfl, hl, ⟨h2, h2, h3⟩, hh⟩⟩
      simp only [zs39]
      rw [aisL_ok h2, hb]
      rfl
    · rw [hb] at h0; cases h0
  · cases h0
theorem at_40 (R : aRel S rf iv E (cs, T, pc, al, as) (pc, lo, st, h)) (h0 : aq40 len (cs, T, pc, al, as) = some (.inl Ys)) : ∃ y, zs40 len (pc, lo, st, h) = some (.inl y) ∧ aGo S rf iv W E Ys (pc, lo, st, h) y := by
  obtain ⟨hs, -, hl, hst, hh⟩ := R
  simp only [aq40, ago] at h0
  split at h0
  · rename_i w1 w2 r
    obtain ⟨u, sr, rfl, h2, h3⟩ := aSt_cons hst
    obtain ⟨u2, sr, rfl, h4, h5⟩ := aSt_cons h3
    cases hb : (aisL w1 || aisL w2)
    · rw [hb] at h0
      cases h0
      refine ⟨(pc + len, lo, u :: u2 :: u :: sr, h), ?_, aGo_one ⟨hs, rfl, hl, ⟨h2, h4, h2, h5⟩, hh⟩⟩
      simp only [zs40]
      rw [aisL_ok h2, aisL_ok h4, hb]
      rfl
    · rw [hb] at h0; cases h0
  · cases h0
theorem at_41 (R : aRel S rf iv E (cs, T, pc, al, as) (pc, lo, st, h)) (h0 : aq41 len (cs, T, pc, al, as) = some (.inl Ys)) : ∃ y, zs41 len (pc, lo, st, h) = some (.inl y) ∧ aGo S rf iv W E Ys (pc, lo, st, h) y := by
  obtain ⟨hs, -, hl, hst, hh⟩ := R
  simp only [aq41, ago] at h0
  split at h0
  · rename_i w1 w2 r
    obtain ⟨u, sr, rfl, h2, h3⟩ := aSt_cons hst
    obtain ⟨u2, sr, rfl, h4, h5⟩ := aSt_cons h3
    cases hb : (aisL w1 || aisL w2)
    · rw [hb] at h0
      cases h0
      refine ⟨(pc + len, lo, u :: u2 :: u :: u2 :: sr, h), ?_, aGo_one ⟨hs, rfl, hl, ⟨h2, h4, h2, h4, h5⟩, hh⟩⟩
      simp only [zs41]
      rw [aisL_ok h2, aisL_ok h4, hb]
      rfl
    · rw [hb] at h0; cases h0
  · cases h0
theorem at_42 (R : aRel S rf iv E (cs, T, pc, al, as) (pc, lo, st, h)) (h0 : aq42 len (cs, T, pc, al, as) = some (.inl Ys)) : ∃ y, zs42 len (pc, lo, st, h) = some (.inl y) ∧ aGo S rf iv W E Ys (pc, lo, st, h) y := by
  obtain ⟨hs, -, hl, hst, hh⟩ := R
  simp only [aq42, ago] at h0
  split at h0
  · rename_i w r
    obtain ⟨u, sr, rfl, h2, h3⟩ := aSt_cons hst
    cases hb : aisL w
    · rw [hb] at h0
      cases h0
      refine ⟨(pc + len, lo, sr, h), ?_, aGo_one ⟨hs, rfl, hl, h3, hh⟩⟩
      simp only [zs42]
      rw [aisL_ok h2, hb]
      rfl
    · rw [hb] at h0; cases h0
  · cases h0
theorem at_44 (R : aRel S rf iv E (cs, T, pc, al, as) (pc, lo, st, h)) (h0 : aq44 len (cs, T, pc, al, as) = some (.inl Ys)) : ∃ y, zs44 len (pc, lo, st, h) = some (.inl y) ∧ aGo S rf iv W E Ys (pc, lo, st, h) y := by
  obtain ⟨hs, -, hl, hst, hh⟩ := R
  simp only [aq44, ago] at h0
  split at h0
  · rename_i w r
    obtain ⟨u, sr, rfl, h2, h3⟩ := aSt_cons hst
    cases hb : aisL w
    · rw [hb] at h0; cases h0
    · rw [hb] at h0
      cases h0
      refine ⟨(pc + len, lo, sr, h), ?_, aGo_one ⟨hs, rfl, hl, h3, hh⟩⟩
      simp only [zs44]
      rw [aisL_ok h2, hb]
      rfl
  · cases h0
theorem at_43 (R : aRel S rf iv E (cs, T, pc, al, as) (pc, lo, st, h)) (h0 : aq43 len a (cs, T, pc, al, as) = some (.inl Ys)) : ∃ y, zs43 len a (pc, lo, st, h) = some (.inl y) ∧ aGo S rf iv W E Ys (pc, lo, st, h) y := by
  obtain ⟨hs, -, hl, hst, hh⟩ := R
  cases h0
  exact ⟨_, rfl, aGo_one ⟨hs, rfl, hl, ⟨⟨a, rfl, List.mem_singleton.mpr rfl⟩, hst⟩, hh⟩⟩
end AR
