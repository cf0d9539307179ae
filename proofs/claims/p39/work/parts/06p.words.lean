set_option maxRecDepth 20000 in
theorem zmA_ok : zmA 0 zma = true := z_and zmG_0 (z_and zmG_1 (z_and zmG_2 (z_and zmG_3 (z_and zmG_4 (z_and zmG_5 (z_and zmG_6 (z_and zmG_7 (z_and zmG_8 (z_and zmG_9 (z_and zmG_10 (z_and zmG_11 (z_and zmG_12 (z_and zmG_13 (z_and zmG_14 (z_and zmG_15 (rfl))))))))))))))))
theorem zmG_at : ∀ {g : List zM} {mi j : Nat} {M : zM}, zmG mi g = true → zget g j = some M → mi + j = zlaw ∨ zmchk (mi + j) M = true
  | [], _, _, _, _, h => by simp [zget] at h
  | x :: g, mi, 0, t, hc, h => by
    simp only [zget, Option.some.injEq] at h
    subst h
    simp only [zmG, Bool.and_eq_true, Bool.or_eq_true, decide_eq_true_eq] at hc
    exact hc.1
  | x :: g, mi, j + 1, t, hc, h => by
    simp only [zmG, Bool.and_eq_true] at hc
    have := zmG_at (g := g) (mi := mi + 1) (j := j) (M := t) hc.2 h
    rw [show mi + (j + 1) = mi + 1 + j by omega]
    exact this
theorem zmA_at : ∀ {a : List (List zM)} {mi q : Nat} {g : List zM}, zmA mi a = true → zget a q = some g → zmG (mi + 16 * q) g = true
  | [], _, _, _, _, h => by simp [zget] at h
  | x :: a, mi, 0, g, hc, h => by
    simp only [zget, Option.some.injEq] at h
    subst h
    simp only [zmA, Bool.and_eq_true] at hc
    exact hc.1
  | x :: a, mi, q + 1, g, hc, h => by
    simp only [zmA, Bool.and_eq_true] at hc
    have := zmA_at (a := a) (mi := mi + 16) (q := q) (g := g) hc.2 h
    rw [show mi + 16 * (q + 1) = mi + 16 + 16 * q by omega]
    exact this
theorem zm_ok {mi : Nat} {M : zM} (h : zm mi = some M) (hl : mi ≠ zlaw) : zmchk mi M = true := by
  unfold zm at h
  cases h1 : zget zma (mi / 16) with
  | none => simp [h1] at h
  | some g =>
    simp only [h1] at h
    have a := zmG_at (zmA_at zmA_ok h1) h
    rw [show 0 + 16 * (mi / 16) + mi % 16 = mi by omega] at a
    exact a.resolve_left hl
