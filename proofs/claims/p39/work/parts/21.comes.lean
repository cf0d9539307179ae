/-! WHAT A METHOD COMES TO: rules over runs of the small machine. -/
def zT (d mi : Nat) (x : zC) (P : Option Value → zH → Prop) : Prop := ∃ f r h1, zr f d mi 100000 x = some (.inr (r, h1)) ∧ P r h1
theorem zne_stop {mi pc : Nat} {e : zI} (h : zi mi pc = some e) : Nat.beq pc 100000 = false := by
  cases hb : Nat.beq pc 100000
  · rfl
  · have e1 := Nat.eq_of_beq_eq_true hb
    subst e1
    exact (zi_stop h).elim
theorem zr_deep : ∀ (f d mi stop : Nat) (x : zC) (o : zC ⊕ (Option Value × zH)), zr f d mi stop x = some o → zr f (d + 1) mi stop x = some o
  | 0, _, _, _, _, _, h => by cases h
  | f + 1, d, mi, stop, x, o, h => by
    rw [zr]
    rcases zr_step h with ⟨e1, rfl⟩ | ⟨e, he, hq⟩
    · rw [e1, Nat.beq_refl]
      rfl
    · cases hb : Nat.beq x.1 stop
      · rw [he]
        dsimp only [cond_false]
        rcases hq with ⟨y, hy, hr⟩ | ⟨r, hy, rfl⟩ | ⟨a, as, y, d1, r, h1, hy, rfl, hl, h2, h3⟩
        · rw [hy]
          exact zr_deep f d mi stop y o hr
        · rw [hy]
        · rw [hy]
          dsimp only
          rw [hl, Nat.beq_refl]
          dsimp only [cond_true]
          rw [zr_deep f d1 a 100000 _ _ h2]
          exact zr_deep f (d1 + 1) mi stop _ o h3
      · have h0 := h
        rw [zr, hb] at h0
        exact h0
theorem zr_deeper {f d d' mi stop : Nat} {x : zC} {o : zC ⊕ (Option Value × zH)} (hl : d ≤ d') (h : zr f d mi stop x = some o) : zr f d' mi stop x = some o := by
  obtain ⟨k, rfl⟩ := Nat.exists_eq_add_of_le hl
  induction k with
  | zero => exact h
  | succ k ih => exact zr_deep _ _ _ _ _ _ (ih (by omega))
section ZT
variable {d d' mi a : Nat} {x y : zC} {e : zI} {P Q : Option Value → zH → Prop}
theorem zT_deep (h : zT d mi x P) (hl : d ≤ d') : zT d' mi x P := by
  obtain ⟨f, r, h1, hr, hp⟩ := h
  exact ⟨f, r, h1, zr_deeper hl hr, hp⟩
theorem zT_mono (h : zT d mi x P) (hq : ∀ r h1, P r h1 → Q r h1) : zT d mi x Q := by
  obtain ⟨f, r, h1, hr, hp⟩ := h
  exact ⟨f, r, h1, hr, hq r h1 hp⟩
theorem zT_step (hi : zi mi x.1 = some e) (hs : zstep e x = some (.inl y)) (h : zT d mi y P) : zT d mi x P := by
  obtain ⟨f, r, h1, hr, hp⟩ := h
  refine ⟨f + 1, r, h1, ?_, hp⟩
  rw [zr, zne_stop hi, hi]
  dsimp only [cond_false]
  rw [hs]
  exact hr
theorem zT_ret {r : Option Value} (hi : zi mi x.1 = some e) (hs : zstep e x = some (.inr (.inr r))) (hp : P r x.2.2.2) : zT d mi x P := by
  refine ⟨1, r, x.2.2.2, ?_, hp⟩
  rw [zr, zne_stop hi, hi]
  dsimp only [cond_false]
  rw [hs]
theorem zT_call {as : List Value} (hi : zi mi x.1 = some e) (hs : zstep e x = some (.inr (.inl (a, as, y)))) (hl : (zpad (zL a) (zargs as)).length = zL a) (hc : zT d a (0, zpad (zL a) (zargs as), [], x.2.2.2) Q) (hk : ∀ r h1, Q r h1 → zT (d + 1) mi (y.1, y.2.1, r.toList ++ y.2.2.1, h1) P) : zT (d + 1) mi x P := by
  obtain ⟨f, r, h1, hr, hq⟩ := hc
  obtain ⟨f2, r2, h2, hr2, hp⟩ := hk r h1 hq
  refine ⟨max f f2 + 1, r2, h2, ?_, hp⟩
  rw [zr, zne_stop hi, hi]
  dsimp only [cond_false]
  rw [hs]
  dsimp only
  rw [hl, Nat.beq_refl]
  dsimp only [cond_true]
  rw [zr_le (Nat.le_max_left f f2) hr]
  exact zr_le (Nat.le_max_right f f2) hr2
end ZT
