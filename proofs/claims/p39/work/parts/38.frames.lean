/-! FRAMES: a run with callers that wait; their numbers by bounds. -/
abbrev zFm : Type := Nat × Nat × List (Option Value) × List Value
def zTS : Nat → List zFm → Nat → zC → (Option Value → zH → Prop) → Prop
  | d, [], mi, x, P => zT d mi x P
  | d, (mi', pc', lo', st') :: fs, mi, x, P => zT d mi x (fun r h1 => zTS (d + 1) fs mi' (pc', lo', r.toList ++ st', h1) P)
section TS
variable {d mi a : Nat} {x y : zC} {e : zI} {P Q : Option Value → zH → Prop} {fs : List zFm}
theorem zTS_step (hi : zi mi x.1 = some e) (hs : zstep e x = some (.inl y)) (h : zTS d fs mi y P) : zTS d fs mi x P := by
  match fs, h with
  | [], h => exact zT_step hi hs h
  | (mi', pc', lo', st') :: fs, h => exact zT_step (P := fun r h1 => zTS (d + 1) fs mi' (pc', lo', r.toList ++ st', h1) P) hi hs h
theorem zTS_ret {r : Option Value} {mi' pc' : Nat} {lo' : List (Option Value)} {st' : List Value} (hi : zi mi x.1 = some e) (hs : zstep e x = some (.inr (.inr r))) (h : zTS (d + 1) fs mi' (pc', lo', r.toList ++ st', x.2.2.2) P) : zTS d ((mi', pc', lo', st') :: fs) mi x P := zT_ret (P := fun r h1 => zTS (d + 1) fs mi' (pc', lo', r.toList ++ st', h1) P) hi hs h
theorem zTS_push {as : List Value} (hi : zi mi x.1 = some e) (hs : zstep e x = some (.inr (.inl (a, as, y)))) (hl : (zpad (zL a) (zargs as)).length = zL a) (h : zTS d ((mi, y.1, y.2.1, y.2.2.1) :: fs) a (0, zpad (zL a) (zargs as), [], x.2.2.2) P) : zTS (d + 1) fs mi x P := by
  match fs, h with
  | [], h => exact zT_call hi hs hl h (fun r h1 hq => hq)
  | (mi', pc', lo', st') :: fs, h => exact zT_call (P := fun r h1 => zTS (d + 1 + 1) fs mi' (pc', lo', r.toList ++ st', h1) P) hi hs hl h (fun r h1 hq => hq)
theorem zTS_call {as : List Value} (hi : zi mi x.1 = some e) (hs : zstep e x = some (.inr (.inl (a, as, y)))) (hl : (zpad (zL a) (zargs as)).length = zL a) (hc : zT d a (0, zpad (zL a) (zargs as), [], x.2.2.2) Q) (hk : ∀ r h1, Q r h1 → zTS (d + 1) fs mi (y.1, y.2.1, r.toList ++ y.2.2.1, h1) P) : zTS (d + 1) fs mi x P := by
  match fs, hk with
  | [], hk => exact zT_call hi hs hl hc hk
  | (mi', pc', lo', st') :: fs, hk => exact zT_call (P := fun r h1 => zTS (d + 1 + 1) fs mi' (pc', lo', r.toList ++ st', h1) P) hi hs hl hc hk
end TS
/-- locals one by one -/
def aLr (E : List Int) : List (Option Value) → List (Option aV) → Prop
  | [], [] => True
  | _ :: r, none :: s => aLr E r s
  | some v :: r, some a :: s => aVs E v a ∧ aLr E r s
  | _, _ => False
theorem aLr_lo {E : List Int} : ∀ {lo : List (Option Value)} {al : List (Option aV)}, aLr E lo al → aLo E lo al
  | [], [], _ => ⟨rfl, fun _ _ h => by cases h⟩
  | [], none :: _, h => h.elim
  | [], some _ :: _, h => h.elim
  | _ :: _, [], h => by
    unfold aLr at h
    exact h.elim
  | v :: r, none :: s, h => by
    have h : aLr E r s := by
      unfold aLr at h
      exact h
    obtain ⟨g1, g2⟩ := aLr_lo h
    refine ⟨congrArg Nat.succ g1, fun i a ha => ?_⟩
    match i, ha with
    | 0, ha => cases ha
    | i + 1, ha => exact g2 i a ha
  | none :: r, some a :: s, h => by
    unfold aLr at h
    exact h.elim
  | some v :: r, some a :: s, h => by
    have h : aVs E v a ∧ aLr E r s := h
    obtain ⟨g1, g2⟩ := aLr_lo h.2
    refine ⟨congrArg Nat.succ g1, fun i b hb => ?_⟩
    match i, hb with
    | 0, hb =>
      cases hb
      exact ⟨v, rfl, h.1⟩
    | i + 1, hb => exact g2 i b hb
def aargs : List aV → List (Option aV)
  | [] => []
  | v :: r => bif aisL v then some v :: none :: aargs r else some v :: aargs r
def apad : Nat → List (Option aV) → List (Option aV)
  | 0, l => l
  | n + 1, [] => none :: apad n []
  | n + 1, a :: l => a :: apad n l
theorem aargs_ok {E : List Int} : ∀ {us : List Value} {xs : List aV}, aSt E us xs → aLr E (zargs us) (aargs xs)
  | [], [], _ => trivial
  | [], _ :: _, h => h.elim
  | _ :: _, [], h => h.elim
  | v :: r, a :: s, h => by
    unfold zargs aargs
    rw [aisL_ok h.1]
    cases aisL a
    · exact ⟨h.1, aargs_ok h.2⟩
    · exact ⟨h.1, aargs_ok h.2⟩
theorem apad_ok {E : List Int} : ∀ {n : Nat} {lo : List (Option Value)} {al : List (Option aV)}, aLr E lo al → aLr E (zpad n lo) (apad n al)
  | 0, _, _, h => h
  | n + 1, [], [], h => apad_ok (n := n) (lo := []) (al := []) h
  | n + 1, [], none :: _, h => h.elim
  | n + 1, [], some _ :: _, h => h.elim
  | n + 1, none :: _, [], h => by
    unfold aLr at h
    exact h.elim
  | n + 1, some _ :: _, [], h => by
    unfold aLr at h
    exact h.elim
  | n + 1, none :: r, none :: s, h => apad_ok (n := n) (lo := r) (al := s) h
  | n + 1, some v :: r, none :: s, h => apad_ok (n := n) (lo := r) (al := s) h
  | n + 1, none :: r, some a :: s, h => by
    unfold aLr at h
    exact h.elim
  | n + 1, some v :: r, some a :: s, h => ⟨h.1, apad_ok h.2⟩
abbrev aFm : Type := Nat × Nat × List (Option aV) × List aV
def aFs (E : List Int) : List zFm → List aFm → Prop
  | [], [] => True
  | f :: fs, g :: gs => (f.1 = g.1 ∧ f.2.1 = g.2.1 ∧ aLo E f.2.2.1 g.2.2.1 ∧ aSt E f.2.2.2 g.2.2.2) ∧ aFs E fs gs
  | _, _ => False
theorem aFs_ext {E q : List Int} : ∀ {fs : List zFm} {gs : List aFm}, aFs E fs gs → aFs (E ++ q) fs gs
  | [], [], _ => trivial
  | [], _ :: _, h => h.elim
  | _ :: _, [], h => h.elim
  | _ :: _, _ :: _, h => ⟨⟨h.1.1, h.1.2.1, aLo_ext h.1.2.2.1, aSt_ext h.1.2.2.2⟩, aFs_ext h.2⟩
/-- a number whose bounds are one is that -/
def an1 (cs : aCs) : aV → aV
  | .inl (.inl (.inl (k, o))) => (match zget cs k with
    | some q => bif ieq q.1 q.2 then .inl (.inl (.inr (q.1 + o))) else .inl (.inl (.inl (k, o)))
    | none => .inl (.inl (.inl (k, o))))
  | v => v
theorem an1_ok {E : List Int} {cs : aCs} {v : Value} {a : aV} (hs : aSat E cs) (h : aVs E v a) : aVs E v (an1 cs a) := by
  match a, h with
  | .inl (.inl (.inl (k, o))), h =>
    unfold an1
    dsimp only
    cases hk : zget cs k with
    | none => exact h
    | some q =>
      dsimp only
      cases hc : ieq q.1 q.2
      · exact h
      · rw [ieq_eq] at hc
        obtain ⟨x, e, w, h1, h2⟩ := h
        have b := hs.2 k w q h1 hk
        exact ⟨x, e, show x.toInt = q.1 + o by omega⟩
  | .inl (.inl (.inr n)), h => exact h
  | .inl (.inr l), h => exact h
  | .inr l, h => exact h
theorem anS_ok {E : List Int} {cs : aCs} (hs : aSat E cs) : ∀ {st : List Value} {as : List aV}, aSt E st as → aSt E st (as.map (an1 cs))
  | [], [], _ => trivial
  | [], _ :: _, h => h.elim
  | _ :: _, [], h => h.elim
  | _ :: _, _ :: _, h => ⟨an1_ok hs h.1, anS_ok hs h.2⟩
def anrm (X : aX) : aX := (X.1, X.2.1, X.2.2.1, X.2.2.2.1, X.2.2.2.2.map (an1 X.1))
theorem anrm_ok {S : Nat → Option (Nat × Nat)} {rf : Nat → Nat → List Nat} {iv : Nat → Nat → Int × Int} {E : List Int} {X : aX} {x : zC} (R : aRel S rf iv E X x) : aRel S rf iv E (anrm X) x := ⟨R.1, R.2.1, R.2.2.1, anS_ok R.1 R.2.2.2.1, R.2.2.2.2⟩
/-- a local is split: an int by its numbers within two ends, a reference by its cells -/
def asp2 (X : aX) (a : aI) (l h : Int) (w : Nat) : List aX := aopt (fun c => (c, X.2)) (arf X.1 a (-abig, l - 1)) ++ (aopt (fun c => (c, X.2)) (arf X.1 a (h + 1, abig)) ++ (List.range ((h - l).toNat / (w + 1) + 1)).flatMap (fun (n : Nat) => aopt (fun c => (c, X.2)) (arf X.1 a (l + ((n * (w + 1) : Nat) : Int), l + ((n * (w + 1) + w : Nat) : Int)))))
def aspl (X : aX) (p : Nat × Int × Int × Nat) : List aX := match zget X.2.2.2.1 p.1 with
  | some (some (.inl (.inl a))) => asp2 X a (imax p.2.1 (abd X.1 a).1) (imin p.2.2.1 (abd X.1 a).2) p.2.2.2
  | some (some (.inr l)) => l.map (fun o => (X.1, X.2.1, X.2.2.1, zput X.2.2.2.1 p.1 (some (.inr [o])), X.2.2.2.2))
  | _ => [X]
theorem asp2_ok {S : Nat → Option (Nat × Nat)} {rf : Nat → Nat → List Nat} {iv : Nat → Nat → Int × Int} {E : List Int} {X : aX} {x : zC} {a : aI} {y : Int32} {l h : Int} {w : Nat} (R : aRel S rf iv E X x) (h2 : aIs E y.toInt a) : ∃ Z, Z ∈ asp2 X a l h w ∧ aRel S rf iv E Z x := by
  have bg := abig_in32 y
  unfold asp2
  by_cases c1 : y.toInt ≤ l - 1
  · obtain ⟨c, e1, e2⟩ := arf_ok (q := (-abig, l - 1)) R.1 h2 bg.1 c1
    exact ⟨(c, X.2), List.mem_append_left _ (aopt_in e1), e2, R.2⟩
  · by_cases c2 : h + 1 ≤ y.toInt
    · obtain ⟨c, e1, e2⟩ := arf_ok (q := (h + 1, abig)) R.1 h2 c2 bg.2
      exact ⟨(c, X.2), List.mem_append_right _ (List.mem_append_left _ (aopt_in e1)), e2, R.2⟩
    · have e : l + ((y.toInt - l).toNat : Int) = y.toInt := by omega
      have d1 := Nat.div_mul_le_self (y.toInt - l).toNat (w + 1)
      have d2 := Nat.lt_div_mul_add (a := (y.toInt - l).toNat) (b := w + 1) (Nat.succ_pos w)
      have d3 : (y.toInt - l).toNat / (w + 1) ≤ (h - l).toNat / (w + 1) := Nat.div_le_div_right (by omega)
      generalize hn : (y.toInt - l).toNat / (w + 1) = n at d1 d2 d3
      obtain ⟨c, e1, e2⟩ := arf_ok (q := (l + ((n * (w + 1) : Nat) : Int), l + ((n * (w + 1) + w : Nat) : Int))) R.1 h2 (by dsimp only; omega) (by dsimp only; omega)
      exact ⟨(c, X.2), List.mem_append_right _ (List.mem_append_right _ (List.mem_flatMap.mpr ⟨n, List.mem_range.mpr (by omega), aopt_in e1⟩)), e2, R.2⟩
theorem aspl_ok {S : Nat → Option (Nat × Nat)} {rf : Nat → Nat → List Nat} {iv : Nat → Nat → Int × Int} {E : List Int} {X : aX} {x : zC} {p : Nat × Int × Int × Nat} (R : aRel S rf iv E X x) : ∃ Z, Z ∈ aspl X p ∧ aRel S rf iv E Z x := by
  unfold aspl
  split
  · rename_i a ha
    obtain ⟨v, h1, y, rfl, h2⟩ := R.2.2.1.2 p.1 _ ha
    exact asp2_ok R h2
  · rename_i l hl
    obtain ⟨v, h1, o, rfl, ho⟩ := R.2.2.1.2 p.1 _ hl
    refine ⟨_, List.mem_map.mpr ⟨o, ho, rfl⟩, R.1, R.2.1, ⟨by dsimp only; rw [zput_length]; exact R.2.2.1.1, fun j b hb => ?_⟩, R.2.2.2⟩
    dsimp only at hb
    by_cases hj : j = p.1
    · subst hj
      have hlt := zget_lt hl
      rw [zget_put_eq _ _ _ hlt] at hb
      cases hb
      exact ⟨.ref o, h1, o, rfl, List.mem_singleton.mpr rfl⟩
    · rw [zget_put_ne _ _ _ _ hj] at hb
      exact R.2.2.1.2 j b hb
  · exact ⟨X, List.mem_singleton.mpr rfl, R⟩
