section SB
variable {E : Nat → Int32} {L : Nat} {T : sT} {pc len a b k3 ci : Nat} {v : Value} {sw : List (Int32 × Nat)} {lo : List (Option Value)} {st : List Value} {h : zH} {o : zO}
theorem zb_7 (h0 : zs7 len b (pc, lo, st, h) = some o) : zs7 len b (sC E L T (pc, lo, st, h)) = some (sO E L T o) := by
  simp only [zs7, zgo, Bool.cond_eq_ite] at h0
  repeat' split at h0
  all_goals first
    | (cases h0; done)
    | (cases h0; rfl)
theorem zb_8 (h0 : zs8 len b (pc, lo, st, h) = some o) : zs8 len b (sC E L T (pc, lo, st, h)) = some (sO E L T o) := by
  simp only [zs8, zgo] at h0
  split at h0
  · split at h0
    · cases h0
    · rename_i x y r hy
      cases h0
      show (if _ = 0 then none else _) = _
      rw [if_neg hy]
      rfl
  · cases h0
theorem zb_9 (h0 : zs9 len b (pc, lo, st, h) = some o) : zs9 len b (sC E L T (pc, lo, st, h)) = some (sO E L T o) := by
  simp only [zs9, zgo, Bool.cond_eq_ite] at h0
  repeat' split at h0
  all_goals first
    | (cases h0; done)
    | (cases h0; rfl)
theorem zb_10 (h0 : zs10 len (pc, lo, st, h) = some o) : zs10 len (sC E L T (pc, lo, st, h)) = some (sO E L T o) := by
  simp only [zs10, zgo, Bool.cond_eq_ite] at h0
  repeat' split at h0
  all_goals first
    | (cases h0; done)
    | (cases h0; rfl)
theorem zb_11 (h0 : zs11 len (pc, lo, st, h) = some o) : zs11 len (sC E L T (pc, lo, st, h)) = some (sO E L T o) := by
  simp only [zs11, zgo, Bool.cond_eq_ite] at h0
  repeat' split at h0
  all_goals first
    | (cases h0; done)
    | (cases h0; rfl)
theorem zb_13 (h0 : zs13 len (pc, lo, st, h) = some o) : zs13 len (sC E L T (pc, lo, st, h)) = some (sO E L T o) := by
  simp only [zs13, zgo, Bool.cond_eq_ite] at h0
  repeat' split at h0
  all_goals first
    | (cases h0; done)
    | (cases h0; rfl)
theorem zb_14 (h0 : zs14 len (pc, lo, st, h) = some o) : zs14 len (sC E L T (pc, lo, st, h)) = some (sO E L T o) := by
  simp only [zs14, zgo, Bool.cond_eq_ite] at h0
  repeat' split at h0
  all_goals first
    | (cases h0; done)
    | (cases h0; rfl)
theorem zb_15 (h0 : zs15 len a b (pc, lo, st, h) = some o) : zs15 len a b (sC E L T (pc, lo, st, h)) = some (sO E L T o) := by
  simp only [zs15, zgo, Bool.cond_eq_ite] at h0
  repeat' split at h0
  all_goals first
    | (cases h0; done)
    | (cases h0; rfl)
theorem zb_16 (h0 : zs16 len a b (pc, lo, st, h) = some o) : zs16 len a b (sC E L T (pc, lo, st, h)) = some (sO E L T o) := by
  simp only [zs16, zgo, Bool.cond_eq_ite] at h0
  repeat' split at h0
  all_goals first
    | (cases h0; done)
    | (cases h0; rfl)
theorem zb_18 (h0 : zs18 a sw (pc, lo, st, h) = some o) : zs18 a sw (sC E L T (pc, lo, st, h)) = some (sO E L T o) := by
  simp only [zs18, zgo, Bool.cond_eq_ite] at h0
  repeat' split at h0
  all_goals first
    | (cases h0; done)
    | (cases h0; rfl)
theorem zb_12 (h0 : zs12 len b (pc, lo, st, h) = some o) : zs12 len b (sC E L T (pc, lo, st, h)) = some (sO E L T o) := by
  match b, h0 with
  | 0, h0 =>
    simp only [zs12, zgo] at h0
    split at h0
    · cases h0
      rfl
    · cases h0
  | _ + 1, h0 =>
    simp only [zs12, zgo] at h0
    split at h0
    · cases h0
      rfl
    · cases h0
theorem zb_35 (h0 : zs35 k3 (pc, lo, st, h) = some o) : zs35 k3 (sC E L T (pc, lo, st, h)) = some (sO E L T o) := by
  match k3, h0 with
  | 0, h0 =>
    simp only [zs35, zgo] at h0
    split at h0
    · cases h0
      rfl
    · cases h0
  | 1, h0 =>
    simp only [zs35, zgo] at h0
    split at h0
    · split at h0
      · rename_i hx
        cases h0
        show (if _ = _ ∨ _ = _ then _ else none) = _
        rw [if_pos hx]
        rfl
      · cases h0
    · cases h0
  | _ + 2, h0 =>
    simp only [zs35, zgo] at h0
    split at h0
    · cases h0
      rfl
    · cases h0
theorem zb_17 (h0 : zs17 a (pc, lo, st, h) = some o) : zs17 a (sC E L T (pc, lo, st, h)) = some (sO E L T o) := by
  cases h0
  rfl
theorem zb_43 (h0 : zs43 len a (pc, lo, st, h) = some o) : zs43 len a (sC E L T (pc, lo, st, h)) = some (sO E L T o) := by
  cases h0
  rfl
theorem zb_0 (hv : sval E v = v) (h0 : zs0 len v (pc, lo, st, h) = some o) : zs0 len v (sC E L T (pc, lo, st, h)) = some (sO E L T o) := by
  cases h0
  show some (Sum.inl (pc + len, slo E lo, v :: st.map (sval E), sH E L T h)) = some (Sum.inl (pc + len, slo E lo, sval E v :: st.map (sval E), sH E L T h))
  rw [hv]
theorem zb_1 (h0 : zs1 len a (pc, lo, st, h) = some o) : zs1 len a (sC E L T (pc, lo, st, h)) = some (sO E L T o) := by
  simp only [zs1] at h0
  split at h0
  · rename_i x hg
    cases h0
    simp only [zs1, sC]
    rw [slo_get hg]
    rfl
  · cases h0
theorem zb_2 (h0 : zs2 len a (pc, lo, st, h) = some o) : zs2 len a (sC E L T (pc, lo, st, h)) = some (sO E L T o) := by
  simp only [zs2] at h0
  split at h0
  · rename_i x hg
    cases h0
    simp only [zs2, sC]
    rw [slo_get hg]
    rfl
  · cases h0
theorem zb_3 (h0 : zs3 len a (pc, lo, st, h) = some o) : zs3 len a (sC E L T (pc, lo, st, h)) = some (sO E L T o) := by
  simp only [zs3] at h0
  split at h0
  · rename_i x hg
    cases h0
    simp only [zs3, sC]
    rw [slo_get hg]
    rfl
  · cases h0
theorem zb_4 (h0 : zs4 len a (pc, lo, st, h) = some o) : zs4 len a (sC E L T (pc, lo, st, h)) = some (sO E L T o) := by
  simp only [zs4] at h0
  split at h0
  · rename_i x r
    cases h0
    show some (Sum.inl (pc + len, zst1 (slo E lo) a (sval E (.int x)), r.map (sval E), sH E L T h)) = _
    rw [zst1_s]
    rfl
  · cases h0
theorem zb_5 (h0 : zs5 len a (pc, lo, st, h) = some o) : zs5 len a (sC E L T (pc, lo, st, h)) = some (sO E L T o) := by
  simp only [zs5] at h0
  split at h0
  · rename_i x r
    cases h0
    show some (Sum.inl (pc + len, zst2 (slo E lo) a (sval E (.long x)), r.map (sval E), sH E L T h)) = _
    rw [zst2_s]
    rfl
  · cases h0
theorem zb_6 (h0 : zs6 len a (pc, lo, st, h) = some o) : zs6 len a (sC E L T (pc, lo, st, h)) = some (sO E L T o) := by
  simp only [zs6] at h0
  split at h0
  · rename_i x r
    cases h0
    show some (Sum.inl (pc + len, zst1 (slo E lo) a (sval E (.ref x)), r.map (sval E), sH E L T h)) = _
    rw [zst1_s]
    rfl
  · cases h0
theorem zb_19 (h0 : zs19 len a v (pc, lo, st, h) = some o) : zs19 len a v (sC E L T (pc, lo, st, h)) = some (sO E L T o) := by
  simp only [zs19] at h0
  split at h0
  · rename_i x k hg
    cases h0
    simp only [zs19, sC]
    rw [slo_get hg]
    show some (Sum.inl (pc + len, zst1 (slo E lo) a (sval E (.int (x + k))), st.map (sval E), sH E L T h)) = _
    rw [zst1_s]
    rfl
  · cases h0
theorem zb_39 (h0 : zs39 len (pc, lo, st, h) = some o) : zs39 len (sC E L T (pc, lo, st, h)) = some (sO E L T o) := by
  simp only [zs39] at h0
  split at h0
  · rename_i v r
    cases hz : zlong v
    · simp only [hz, cond_false] at h0
      cases h0
      simp only [zs39, sC, List.map_cons, sval_long, hz, cond_false]
      rfl
    · simp [hz] at h0
  · cases h0
theorem zb_42 (h0 : zs42 len (pc, lo, st, h) = some o) : zs42 len (sC E L T (pc, lo, st, h)) = some (sO E L T o) := by
  simp only [zs42] at h0
  split at h0
  · rename_i v r
    cases hz : zlong v
    · simp only [hz, cond_false] at h0
      cases h0
      simp only [zs42, sC, List.map_cons, sval_long, hz, cond_false]
      rfl
    · simp [hz] at h0
  · cases h0
theorem zb_40 (h0 : zs40 len (pc, lo, st, h) = some o) : zs40 len (sC E L T (pc, lo, st, h)) = some (sO E L T o) := by
  simp only [zs40] at h0
  split at h0
  · rename_i v w r
    cases hz : zlong v
    · cases hz2 : zlong w
      · simp only [hz, hz2, Bool.or_self, cond_false] at h0
        cases h0
        simp only [zs40, sC, List.map_cons, sval_long, hz, hz2, Bool.or_self, cond_false]
        rfl
      · simp [hz, hz2] at h0
    · simp [hz] at h0
  · cases h0
theorem zb_41 (h0 : zs41 len (pc, lo, st, h) = some o) : zs41 len (sC E L T (pc, lo, st, h)) = some (sO E L T o) := by
  simp only [zs41] at h0
  split at h0
  · rename_i v w r
    cases hz : zlong v
    · cases hz2 : zlong w
      · simp only [hz, hz2, Bool.or_self, cond_false] at h0
        cases h0
        simp only [zs41, sC, List.map_cons, sval_long, hz, hz2, Bool.or_self, cond_false]
        rfl
      · simp [hz, hz2] at h0
    · simp [hz] at h0
  · cases h0
theorem zb_20 (hh : sHd h) (hT : ∀ o r, st = .ref o :: r → (sfind T o b).isNone = true) (h0 : zs20 len a b k3 (pc, lo, st, h) = some o) : zs20 len a b k3 (sC E L T (pc, lo, st, h)) = some (sO E L T o) := by
  simp only [zs20] at h0
  split at h0
  · rename_i o r
    split at h0
    · rename_i t n hg
      cases hq : (Nat.beq t (10 + a) && Nat.blt b n)
      · simp [hq] at h0
      · simp only [hq, cond_true] at h0
        cases h0
        have ht : t ≠ 9 := by
          rw [Bool.and_eq_true] at hq
          have := Nat.eq_of_beq_eq_true hq.1
          omega
        obtain ⟨g1, g2⟩ := ssh_get (L := L) hh hg ht
        have hf : sfind T o b = none := Option.isNone_iff_eq_none.mp (hT o r rfl)
        show (match zget (ssh L h.1) o with
          | some (t, n) => bif Nat.beq t (10 + a) && Nat.blt b n then zgo (pc + len, slo E lo, (match k3 with
            | 1 => va_rf (h.2.2.2 o b)
            | _ => .int (sov E T h.2.1 o b)) :: r.map (sval E), sH E L T h) else none
          | _ => none) = _
        rw [g1]
        dsimp only
        rw [hq, sov_get hf g2]
        dsimp only [cond_true]
        show some (Sum.inl _) = some (Sum.inl (pc + len, slo E lo, sval E (match k3 with
            | 1 => va_rf (h.2.2.2 o b)
            | _ => .int (h.2.1 o b)) :: r.map (sval E), sH E L T h))
        congr 5
        split
        · rw [sval_rf]
        · rfl
    · cases h0
  · cases h0
theorem zb_21 (hh : sHd h) (hT : ∀ v o r, st = v :: .ref o :: r → (sfind T o b).isNone = true) (h0 : zs21 len a b k3 (pc, lo, st, h) = some o) : zs21 len a b k3 (sC E L T (pc, lo, st, h)) = some (sO E L T o) := by
  simp only [zs21] at h0
  split at h0
  · rename_i x o r
    split at h0
    · rename_i t n hg
      cases hq : (Nat.beq t (10 + a) && Nat.blt b n)
      · simp [hq] at h0
      · simp only [hq, cond_true] at h0
        have ht : t ≠ 9 := by
          rw [Bool.and_eq_true] at hq
          have := Nat.eq_of_beq_eq_true hq.1
          omega
        obtain ⟨g1, g2⟩ := ssh_get (L := L) hh hg ht
        have hf : sfind T o b = none := Option.isNone_iff_eq_none.mp (hT _ o r rfl)
        simp only [zs21, sC, List.map_cons, sval]
        have g1 : zget (sH E L T h).1 o = some (t, n) := g1
        rw [g1]
        dsimp only
        rw [hq]
        dsimp only [cond_true]
        have e : (sH E L T h).2.1 = sov E T h.2.1 := rfl
        split at h0
        · cases h0
          show some (Sum.inl (pc + len, slo E lo, r.map (sval E), ((sH E L T h).1, zup (sov E T h.2.1) o b x, h.2.2.1, h.2.2.2))) = _
          rw [← sov_up hf g2]
          rfl
        · split at h0
          · rename_i hx
            cases h0
            rw [if_pos hx]
            show some (Sum.inl (pc + len, slo E lo, r.map (sval E), ((sH E L T h).1, zup (sov E T h.2.1) o b x, h.2.2.1, h.2.2.2))) = _
            rw [← sov_up hf g2]
            rfl
          · cases h0
        · cases h0
    · cases h0
  · rename_i w o r
    split at h0
    · rename_i t n hg
      cases hq : (Nat.beq t (10 + a) && Nat.blt b n)
      · simp [hq] at h0
      · simp only [hq, cond_true] at h0
        have ht : t ≠ 9 := by
          rw [Bool.and_eq_true] at hq
          have := Nat.eq_of_beq_eq_true hq.1
          omega
        obtain ⟨g1, g2⟩ := ssh_get (L := L) hh hg ht
        simp only [zs21, sC, List.map_cons, sval]
        have g1 : zget (sH E L T h).1 o = some (t, n) := g1
        rw [g1]
        dsimp only
        rw [hq]
        dsimp only [cond_true]
        split at h0
        · cases h0
          rfl
        · cases h0
    · cases h0
  · cases h0
theorem zb_22 (hh : sHd h) (hT : ∀ i o r, st = .int i :: .ref o :: r → (sfind T o (zix i)).isNone = true) (h0 : zs22 len (pc, lo, st, h) = some o) : zs22 len (sC E L T (pc, lo, st, h)) = some (sO E L T o) := by
  simp only [zs22] at h0
  split at h0
  · rename_i j o r
    split at h0
    · rename_i t n hg
      cases hq : ((Nat.beq t 0 || Nat.beq t 5) && Nat.blt (zix j) n)
      · simp [hq] at h0
      · simp only [hq, cond_true] at h0
        cases h0
        have ht : t ≠ 9 := by
          intro q
          subst q
          cases hq
        obtain ⟨g1, g2⟩ := ssh_get (L := L) hh hg ht
        have hf : sfind T o (zix j) = none := Option.isNone_iff_eq_none.mp (hT j o r rfl)
        simp only [zs22, sC, List.map_cons, sval]
        have g1 : zget (sH E L T h).1 o = some (t, n) := g1
        rw [g1]
        dsimp only
        rw [hq]
        dsimp only [cond_true]
        have e : (sH E L T h).2.1 o (zix j) = h.2.1 o (zix j) := sov_get hf g2
        rw [e]
        rfl
    · cases h0
  · cases h0
theorem zb_23 (hh : sHd h) (h0 : zs23 len (pc, lo, st, h) = some o) : zs23 len (sC E L T (pc, lo, st, h)) = some (sO E L T o) := by
  simp only [zs23] at h0
  split at h0
  · rename_i j o r
    split at h0
    · rename_i t n hg
      cases hq : (Nat.beq t 1 && Nat.blt (zix j) n)
      · simp [hq] at h0
      · simp only [hq, cond_true] at h0
        cases h0
        have ht : t ≠ 9 := by
          intro q
          subst q
          cases hq
        obtain ⟨g1, g2⟩ := ssh_get (L := L) hh hg ht
        simp only [zs23, sC, List.map_cons, sval]
        have g1 : zget (sH E L T h).1 o = some (t, n) := g1
        rw [g1]
        dsimp only
        rw [hq]
        dsimp only [cond_true]
        rfl
    · cases h0
  · cases h0
theorem zb_24 (hh : sHd h) (h0 : zs24 len (pc, lo, st, h) = some o) : zs24 len (sC E L T (pc, lo, st, h)) = some (sO E L T o) := by
  simp only [zs24] at h0
  split at h0
  · rename_i j o r
    split at h0
    · rename_i t n hg
      cases hq : ((Nat.ble 2 t && Nat.ble t 4) && Nat.blt (zix j) n)
      · simp [hq] at h0
      · simp only [hq, cond_true] at h0
        cases h0
        have ht : t ≠ 9 := by
          intro q
          subst q
          cases hq
        obtain ⟨g1, g2⟩ := ssh_get (L := L) hh hg ht
        simp only [zs24, sC, List.map_cons, sval]
        have g1 : zget (sH E L T h).1 o = some (t, n) := g1
        rw [g1]
        dsimp only
        rw [hq]
        dsimp only [cond_true]
        show some (Sum.inl (pc + len, slo E lo, va_rf (h.2.2.2 o (zix j)) :: r.map (sval E), sH E L T h)) = some (Sum.inl (pc + len, slo E lo, sval E (va_rf (h.2.2.2 o (zix j))) :: r.map (sval E), sH E L T h))
        rw [sval_rf]
    · cases h0
  · cases h0
theorem zb_25 (hh : sHd h) (hT : ∀ v i o r, st = v :: .int i :: .ref o :: r → (sfind T o (zix i)).isNone = true) (h0 : zs25 len (pc, lo, st, h) = some o) : zs25 len (sC E L T (pc, lo, st, h)) = some (sO E L T o) := by
  simp only [zs25] at h0
  split at h0
  · rename_i x j o r
    split at h0
    · rename_i t n hg
      cases hq : (Nat.beq t 0 && Nat.blt (zix j) n)
      · simp [hq] at h0
      · simp only [hq, cond_true] at h0
        cases h0
        have ht : t ≠ 9 := by
          intro q
          subst q
          cases hq
        obtain ⟨g1, g2⟩ := ssh_get (L := L) hh hg ht
        have hf : sfind T o (zix j) = none := Option.isNone_iff_eq_none.mp (hT _ j o r rfl)
        simp only [zs25, sC, List.map_cons, sval]
        have g1 : zget (sH E L T h).1 o = some (t, n) := g1
        rw [g1]
        dsimp only
        rw [hq]
        dsimp only [cond_true]
        show some (Sum.inl (pc + len, slo E lo, r.map (sval E), ((sH E L T h).1, zup (sov E T h.2.1) o (zix j) x, h.2.2.1, h.2.2.2))) = _
        rw [← sov_up hf g2]
        rfl
    · cases h0
  · cases h0
theorem zb_26 (hh : sHd h) (h0 : zs26 len (pc, lo, st, h) = some o) : zs26 len (sC E L T (pc, lo, st, h)) = some (sO E L T o) := by
  simp only [zs26] at h0
  split at h0
  · rename_i x j o r
    split at h0
    · rename_i t n hg
      cases hq : (Nat.beq t 1 && Nat.blt (zix j) n)
      · simp [hq] at h0
      · simp only [hq, cond_true] at h0
        cases h0
        have ht : t ≠ 9 := by
          intro q
          subst q
          cases hq
        obtain ⟨g1, g2⟩ := ssh_get (L := L) hh hg ht
        simp only [zs26, sC, List.map_cons, sval]
        have g1 : zget (sH E L T h).1 o = some (t, n) := g1
        rw [g1]
        dsimp only
        rw [hq]
        rfl
    · cases h0
  · cases h0
theorem zb_27 (hh : sHd h) (h0 : zs27 len (pc, lo, st, h) = some o) : zs27 len (sC E L T (pc, lo, st, h)) = some (sO E L T o) := by
  simp only [zs27] at h0
  split at h0
  · rename_i v j o r
    split at h0
    · rename_i t n t2 n2 hg hv
      cases hq : (((Nat.ble 2 t && Nat.ble t 4) && Nat.beq t2 (10 + zcomp t)) && Nat.blt (zix j) n)
      · simp [hq] at h0
      · simp only [hq, cond_true] at h0
        cases h0
        have ht : t ≠ 9 := by
          intro q
          subst q
          cases hq
        have ht2 : t2 ≠ 9 := by
          rw [Bool.and_eq_true, Bool.and_eq_true] at hq
          have := Nat.eq_of_beq_eq_true hq.1.2
          omega
        obtain ⟨g1, g2⟩ := ssh_get (L := L) hh hg ht
        obtain ⟨g3, g4⟩ := ssh_get (L := L) hh hv ht2
        simp only [zs27, sC, List.map_cons, sval]
        have g1 : zget (sH E L T h).1 o = some (t, n) := g1
        have g3 : zget (sH E L T h).1 v = some (t2, n2) := g3
        rw [g1, g3]
        dsimp only
        rw [hq]
        rfl
    · cases h0
  · cases h0
theorem zb_28 (hh : sHd h) (h0 : zs28 len (pc, lo, st, h) = some o) : zs28 len (sC E L T (pc, lo, st, h)) = some (sO E L T o) := by
  simp only [zs28] at h0
  split at h0
  · rename_i o r
    split at h0
    · rename_i t n hg
      cases hq : Nat.ble t 5
      · simp [hq] at h0
      · simp only [hq, cond_true] at h0
        cases h0
        have ht : t ≠ 9 := by
          intro q
          subst q
          cases hq
        obtain ⟨g1, g2⟩ := ssh_get (L := L) hh hg ht
        simp only [zs28, sC, List.map_cons, sval]
        have g1 : zget (sH E L T h).1 o = some (t, n) := g1
        rw [g1]
        dsimp only
        rw [hq]
        rfl
    · cases h0
  · cases h0
theorem zb_29 (hh : sHd h) (hT : T = []) (h0 : zs29 len a b (pc, lo, st, h) = some o) : zs29 len a b (sC E L T (pc, lo, st, h)) = some (sO E L T o) := by
  cases h0
  subst hT
  show some (Sum.inl (pc + len, slo E lo, .ref (ssh L h.1).length :: st.map (sval E), znew (sH E L [] h) (10 + a) b)) = _
  rw [ssh_len hh, znew_s hh]
  rfl
theorem zb_30 (hh : sHd h) (hT : T = []) (h0 : zs30 len a (pc, lo, st, h) = some o) : zs30 len a (sC E L T (pc, lo, st, h)) = some (sO E L T o) := by
  subst hT
  simp only [zs30] at h0
  split at h0
  · rename_i n r
    cases hq : (Nat.blt (zix n) 100000 && Nat.ble a 4)
    · simp [hq] at h0
    · simp only [hq, cond_true] at h0
      cases h0
      simp only [zs30, sC, List.map_cons, sval]
      rw [hq]
      show some (Sum.inl (pc + len, slo E lo, .ref (ssh L h.1).length :: r.map (sval E), znew (sH E L [] h) a (zix n))) = _
      rw [ssh_len hh, znew_s hh]
      rfl
  · cases h0
theorem zb_31 (h0 : zs31 len b (pc, lo, st, h) = some o) : zs31 len b (sC E L T (pc, lo, st, h)) = some (sO E L T o) := by
  match b, h0 with
  | 0, h0 =>
    simp only [zs31] at h0
    split at h0
    · rename_i y x r _
      cases hq : Nat.ble (zcat r) 8
      · simp [hq] at h0
      · simp only [hq, cond_true] at h0
        cases h0
        show (bif Nat.ble (zcat (r.map (sval E))) 8 then _ else none) = _
        rw [zcat_s, hq]
        rfl
    · cases h0
  | 1, h0 =>
    simp only [zs31] at h0
    split at h0
    · rename_i y x r _
      cases hq : Nat.ble (zcat r) 8
      · simp [hq] at h0
      · simp only [hq, cond_true] at h0
        cases h0
        show (bif Nat.ble (zcat (r.map (sval E))) 8 then _ else none) = _
        rw [zcat_s, hq]
        rfl
    · cases h0
  | _ + 2, h0 =>
    simp only [zs31] at h0
    split at h0
    · rename_i x r _
      cases hq : Nat.ble (zcat r) 8
      · simp [hq] at h0
      · simp only [hq, cond_true] at h0
        cases h0
        show (bif Nat.ble (zcat (r.map (sval E))) 8 then _ else none) = _
        rw [zcat_s, hq]
        rfl
    · cases h0
theorem zb_32 (hh : sHd h) (h0 : zs32 len a b k3 ci (pc, lo, st, h) = some o) : zs32 len a b k3 ci (sC E L T (pc, lo, st, h)) = some (sO E L T o) := by
  obtain ⟨as, y, e⟩ := zg_32 h0
  subst e
  by_cases hk : k3 = 1
  · subst hk
    obtain ⟨r', ht, h8, rfl, -⟩ := zs32_st h0
    have ht2 := ztake_s E b [] st
    rw [ht] at ht2
    have ht2 : ztake b [] (st.map (sval E)) = some (as.map (sval E), r'.map (sval E)) := ht2
    simp only [zs32, sC]
    rw [ht2]
    dsimp only
    rw [zcat_s, show Nat.ble (zcat r') 8 = true from Nat.ble_eq.mpr h8]
    rfl
  · obtain ⟨o, as1, n, r', rfl, hg, ht, h8, rfl, -⟩ := zs32_rf hk h0
    have ht2 := ztake_s E b [] st
    rw [ht] at ht2
    have ht2 : ztake b [] (st.map (sval E)) = some (.ref o :: as1.map (sval E), r'.map (sval E)) := ht2
    obtain ⟨g1, g2⟩ := ssh_get (L := L) hh hg (by omega)
    have g1 : zget (sH E L T h).1 o = some (10 + ci, n) := g1
    simp only [zs32, sC]
    rw [ht2]
    dsimp only
    rw [zcat_s, show Nat.ble (zcat r') 8 = true from Nat.ble_eq.mpr h8]
    dsimp only [cond_true]
    rw [g1]
    dsimp only
    rw [Nat.beq_refl]
    rfl
theorem zb_33 (h0 : zs33 len (pc, lo, st, h) = some o) : zs33 len (sC E L T (pc, lo, st, h)) = some (sO E L T o) := by
  simp only [zs33] at h0
  split at h0
  · rename_i o r
    cases hq : Nat.ble (zcat r) 8
    · simp [hq] at h0
    · simp only [hq, cond_true] at h0
      cases h0
      show (bif Nat.ble (zcat (r.map (sval E))) 8 then _ else none) = _
      rw [zcat_s, hq]
      rfl
  · cases h0
theorem zb_34 (hh : sHd h) (hT : T = []) (h0 : zs34 len (pc, lo, st, h) = some o) : zs34 len (sC E L T (pc, lo, st, h)) = some (sO E L T o) := by
  subst hT
  simp only [zs34] at h0
  split at h0
  · rename_i n dp o1 sp o0 r
    split at h0
    · rename_i t0 n0 t1 n1 g0 g1
      cases hq : ((((Nat.beq t0 t1 && Nat.blt (zix n) 100000) && (Nat.blt (zix sp) 100000 && Nat.blt (zix dp) 100000)) && (Nat.ble (zix sp + zix n) n0 && Nat.ble (zix dp + zix n) n1)) && Nat.ble (zcat r) 8)
      · simp [hq] at h0
      · simp only [hq, cond_true] at h0
        have et : t0 = t1 := by
          rw [Bool.and_eq_true, Bool.and_eq_true, Bool.and_eq_true, Bool.and_eq_true] at hq
          exact Nat.eq_of_beq_eq_true hq.1.1.1.1
        split at h0
        · cases h0
          subst et
          obtain ⟨f1, f2⟩ := ssh_get (L := L) hh g0 (by decide)
          obtain ⟨f3, f4⟩ := ssh_get (L := L) hh g1 (by decide)
          have f1 : zget (sH E L [] h).1 o0 = some (0, n0) := f1
          have f3 : zget (sH E L [] h).1 o1 = some (0, n1) := f3
          simp only [zs34, sC, List.map_cons, sval]
          rw [f1, f3]
          dsimp only
          rw [zcat_s, hq]
          dsimp only [cond_true]
          show some (Sum.inl (pc + len, slo E lo, r.map (sval E), ((sH E L [] h).1, zrow (sov E [] h.2.1) o1 (zcpy (sov E [] h.2.1 o0) (sov E [] h.2.1 o1) (zix sp) (zix dp) (zix n)), h.2.2.1, h.2.2.2))) = _
          rw [sov_nil f2, sov_nil f4, ← sov_row f4]
          rfl
        · cases h0
          subst et
          obtain ⟨f1, f2⟩ := ssh_get (L := L) hh g0 (by decide)
          obtain ⟨f3, f4⟩ := ssh_get (L := L) hh g1 (by decide)
          have f1 : zget (sH E L [] h).1 o0 = some (1, n0) := f1
          have f3 : zget (sH E L [] h).1 o1 = some (1, n1) := f3
          simp only [zs34, sC, List.map_cons, sval]
          rw [f1, f3]
          dsimp only
          rw [zcat_s, hq]
          rfl
        · cases h0
    · cases h0
  · cases h0
theorem zb_36 (h0 : zs36  (pc, lo, st, h) = some o) : zs36  (sC E L T (pc, lo, st, h)) = some (sO E L T o) := by
  simp only [zs36, zgo, Bool.cond_eq_ite] at h0
  repeat' split at h0
  all_goals first
    | (cases h0; done)
    | (cases h0; rfl)
theorem zb_37 (h0 : zs37  (pc, lo, st, h) = some o) : zs37  (sC E L T (pc, lo, st, h)) = some (sO E L T o) := by
  simp only [zs37, zgo, Bool.cond_eq_ite] at h0
  repeat' split at h0
  all_goals first
    | (cases h0; done)
    | (cases h0; rfl)
theorem zb_38 (h0 : zs38  (pc, lo, st, h) = some o) : zs38  (sC E L T (pc, lo, st, h)) = some (sO E L T o) := by
  simp only [zs38, zgo, Bool.cond_eq_ite] at h0
  repeat' split at h0
  all_goals first
    | (cases h0; done)
    | (cases h0; rfl)
theorem zb_44 (h0 : zs44 len (pc, lo, st, h) = some o) : zs44 len (sC E L T (pc, lo, st, h)) = some (sO E L T o) := by
  simp only [zs44] at h0
  split at h0
  · rename_i v r
    cases hz : zlong v
    · simp [hz] at h0
    · simp only [hz, cond_true] at h0
      cases h0
      simp only [zs44, sC, List.map_cons, sval_long, hz, cond_true]
      rfl
  · cases h0
/-- an instruction's own value is known -/
def okV (E : Nat → Int32) (e : zI) : Prop := sval E e.2.2.2.2.2.1 = e.2.2.2.2.2.1
theorem zsub {op : Nat} (hh : sHd h) (hV : sval E v = v) (hT : okT T (op, len, a, b, k3, v, sw) st = true) (h0 : zstep (op, len, a, b, k3, v, sw) (pc, lo, st, h) = some o) : zstep (op, len, a, b, k3, v, sw) (sC E L T (pc, lo, st, h)) = some (sO E L T o) := by
  match op, hT, h0 with
  | 0, hT, h0 => exact zb_0 hV h0
  | 1, hT, h0 => exact zb_1 h0
  | 2, hT, h0 => exact zb_2 h0
  | 3, hT, h0 => exact zb_3 h0
  | 4, hT, h0 => exact zb_4 h0
  | 5, hT, h0 => exact zb_5 h0
  | 6, hT, h0 => exact zb_6 h0
  | 7, hT, h0 => exact zb_7 h0
  | 8, hT, h0 => exact zb_8 h0
  | 9, hT, h0 => exact zb_9 h0
  | 10, hT, h0 => exact zb_10 h0
  | 11, hT, h0 => exact zb_11 h0
  | 12, hT, h0 => exact zb_12 h0
  | 13, hT, h0 => exact zb_13 h0
  | 14, hT, h0 => exact zb_14 h0
  | 15, hT, h0 => exact zb_15 h0
  | 16, hT, h0 => exact zb_16 h0
  | 17, hT, h0 => exact zb_17 h0
  | 18, hT, h0 => exact zb_18 h0
  | 19, hT, h0 => exact zb_19 h0
  | 20, hT, h0 => exact zb_20 hh (fun o r e => by subst e; exact hT) h0
  | 21, hT, h0 => exact zb_21 hh (fun v o r e => by subst e; exact hT) h0
  | 22, hT, h0 => exact zb_22 hh (fun i o r e => by subst e; exact hT) h0
  | 23, hT, h0 => exact zb_23 hh h0
  | 24, hT, h0 => exact zb_24 hh h0
  | 25, hT, h0 => exact zb_25 hh (fun v i o r e => by subst e; exact hT) h0
  | 26, hT, h0 => exact zb_26 hh h0
  | 27, hT, h0 => exact zb_27 hh h0
  | 28, hT, h0 => exact zb_28 hh h0
  | 29, hT, h0 => exact zb_29 hh (List.isEmpty_iff.mp hT) h0
  | 30, hT, h0 => exact zb_30 hh (List.isEmpty_iff.mp hT) h0
  | 31, hT, h0 => exact zb_31 h0
  | 32, hT, h0 => exact zb_32 hh h0
  | 33, hT, h0 => exact zb_33 h0
  | 34, hT, h0 => exact zb_34 hh (List.isEmpty_iff.mp hT) h0
  | 35, hT, h0 => exact zb_35 h0
  | 36, hT, h0 => exact zb_36 h0
  | 37, hT, h0 => exact zb_37 h0
  | 38, hT, h0 => exact zb_38 h0
  | 39, hT, h0 => exact zb_39 h0
  | 40, hT, h0 => exact zb_40 h0
  | 41, hT, h0 => exact zb_41 h0
  | 42, hT, h0 => exact zb_42 h0
  | 43, hT, h0 => exact zb_43 h0
  | 44, hT, h0 => exact zb_44 h0
  | _ + 45, hT, h0 => cases h0
end SB
