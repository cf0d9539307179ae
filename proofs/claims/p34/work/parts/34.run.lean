/-! RUNS BY BOUNDS: from a state on to the next cuts, returns and calls. -/
abbrev aL : Type := aX ⊕ ((aX × Option aV) ⊕ (aX × Nat × List aV × aX))
def arunL (g : aX → Option (List aL)) (cut : Nat → Bool) : List aX → Option (List aL)
  | [] => some []
  | Y :: r => (match (bif cut Y.2.2.1 then some [.inl Y] else g Y), arunL g cut r with
    | some a, some b => some (a ++ b)
    | _, _ => none)
theorem arunL_ok {g : aX → Option (List aL)} {cut : Nat → Bool} : ∀ {Ys : List aX} {Ls : List aL} {Y : aX}, arunL g cut Ys = some Ls → Y ∈ Ys → ∃ L1, (bif cut Y.2.2.1 then some [.inl Y] else g Y) = some L1 ∧ ∀ z, z ∈ L1 → z ∈ Ls
  | [], _, _, _, hy => by cases hy
  | Y1 :: r, Ls, Y, h, hy => by
    unfold arunL at h
    split at h
    · rename_i a b e1 e2
      cases h
      rcases List.mem_cons.mp hy with rfl | hy
      · exact ⟨a, e1, fun z hz => List.mem_append.mpr (Or.inl hz)⟩
      · obtain ⟨L1, q1, q2⟩ := arunL_ok e2 hy
        exact ⟨L1, q1, fun z hz => List.mem_append.mpr (Or.inr (q2 z hz))⟩
    · cases h
def arun (S : List (Nat × Nat)) (rf : Nat → Nat → List Nat) (B : aB) (W : Nat → Nat → Bool) (WA : Nat → Bool) (mi : Nat) (cut : Nat → Bool) : Nat → aX → Option (List aL)
  | 0, _ => none
  | f + 1, X => (match zi mi X.2.2.1 with
    | none => none
    | some e => (match astepR e X with
      | some (.inr (.inr w)) => some [.inr (.inl (X, w))]
      | _ => (match astepC S e X with
        | some (.inr (.inl c)) => some [.inr (.inr (X, c))]
        | _ => (match astepG S rf B W WA e X with
          | some (.inl Ys) => arunL (arun S rf B W WA mi cut f) cut Ys
          | _ => none))))
/-- nothing but what W names is written -/
def aFr (W : Nat → Nat → Bool) (h h' : zH) : Prop := ∀ o k, W o k = false → h'.2.1 o k = h.2.1 o k
theorem arun_ok {S : List (Nat × Nat)} {rf : Nat → Nat → List Nat} {B : aB} {W : Nat → Nat → Bool} {WA : Nat → Bool} {mi d : Nat} {cut : Nat → Bool} {P : Option Value → zH → Prop} (hW : ∀ o k, WA o = true → W o k = true) : ∀ {f : Nat} {X : aX} {x : zC} {E : List Int} {Ls : List aL}, arun S rf B W WA mi cut f X = some Ls → aRel S rf (aiv B) E X x →
    (∀ Y E' y, .inl Y ∈ Ls → aRel S rf (aiv B) E' Y y → aFr W x.2.2.2 y.2.2.2 → zT d mi y P) →
    (∀ Y w E' y u, .inr (.inl (Y, w)) ∈ Ls → aRel S rf (aiv B) E' Y y → aRet E' u w → aFr W x.2.2.2 y.2.2.2 → P u y.2.2.2) →
    (∀ X1 m xs Y E' x1 e us y, .inr (.inr (X1, m, xs, Y)) ∈ Ls → zi mi x1.1 = some e → zstep e x1 = some (.inr (.inl (m, us, y))) → aSt E' us xs → aRel S rf (aiv B) E' Y y → y.2.2.2 = x1.2.2.2 → aFr W x.2.2.2 x1.2.2.2 → zT d mi x1 P) →
    zT d mi x P
  | 0, _, _, _, _, h, _, _, _, _ => by cases h
  | f + 1, (cs, T, pc, al, as), (pc', lo, st, h), E, Ls, hr, R, kc, kr, kk => by
    have epc : pc = pc' := R.2.1
    subst epc
    unfold arun at hr
    dsimp only at hr
    split at hr
    · cases hr
    · rename_i e he
      obtain ⟨op, len, a, b, c, v, sw⟩ := e
      split at hr
      · rename_i w hw
        cases hr
        obtain ⟨u, g1, g2⟩ := astepR_ok R hw
        exact zT_ret he g1 (kr _ w E _ u (List.mem_singleton.mpr rfl) R g2 (fun _ _ _ => rfl))
      · split at hr
        · rename_i cc hc
          obtain ⟨m, xs, Y⟩ := cc
          cases hr
          obtain ⟨us, y, g1, g2, g3, g4⟩ := astepC_ok R hc
          exact kk _ m xs Y E _ _ us y (List.mem_singleton.mpr rfl) he g1 g2 g3 g4 (fun _ _ _ => rfl)
        · split at hr
          · rename_i Ys hg
            obtain ⟨y, g1, ⟨q, Y, hY, R2⟩, g3⟩ := astepG_ok hW R hg
            obtain ⟨L1, q1, q2⟩ := arunL_ok hr hY
            refine zT_step he g1 ?_
            cases hcut : cut Y.2.2.1
            · rw [hcut] at q1
              refine arun_ok hW q1 R2 (fun Y' E' y' m1 m2 m3 => kc Y' E' y' (q2 _ m1) m2 ?_) (fun Y' w E' y' u m1 m2 m3 m4 => kr Y' w E' y' u (q2 _ m1) m2 m3 ?_) (fun X1 m xs Y' E' x1 e us y' m1 m2 m3 m4 m5 m6 m7 => kk X1 m xs Y' E' x1 e us y' (q2 _ m1) m2 m3 m4 m5 m6 ?_)
              · exact fun o k hw => (m3 o k hw).trans (g3 o k hw)
              · exact fun o k hw => (m4 o k hw).trans (g3 o k hw)
              · exact fun o k hw => (m7 o k hw).trans (g3 o k hw)
            · rw [hcut] at q1
              cases q1
              exact kc Y _ y (q2 _ (List.mem_singleton.mpr rfl)) R2 g3
          · cases hr
