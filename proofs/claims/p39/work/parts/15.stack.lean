/-! A RUN WITH ITS FRAMES IN A LIST: it ends with 1, in its bounds. -/
abbrev zFr : Type := Nat × Nat × List (Option Value) × List Value
def zfin (r : Option Value) (h : zH) : Bool := decide (r = some (.int 1)) && (Nat.ble h.1.length 500000 && Nat.ble (zslots h.1) 7000000)
def zxr : Nat → List zFr → zH → Bool
  | 0, _, _ => false
  | _ + 1, [], _ => false
  | n + 1, (mi, pc, lo, st) :: fs, h => match zi mi pc with
    | none => false
    | some e => match zstep e (pc, lo, st, h) with
      | none => false
      | some (.inl y) => zxr n ((mi, y.1, y.2.1, y.2.2.1) :: fs) y.2.2.2
      | some (.inr (.inr r)) => (match fs with
        | [] => zfin r h
        | (mi2, pc2, lo2, st2) :: fs2 => zxr n ((mi2, pc2, lo2, r.toList ++ st2) :: fs2) h)
      | some (.inr (.inl (a, as, y))) => (Nat.blt fs.length 60 && Nat.beq (zpad (zL a) (zargs as)).length (zL a)) && zxr n ((a, 0, zpad (zL a) (zargs as), []) :: (mi, y.1, y.2.1, y.2.2.1) :: fs) h
theorem zi_none : zia.all (fun g => g.all fun t => (zget t 6250).isNone) = true := by decide +kernel
theorem zi_stop {mi : Nat} {e : zI} (h : zi mi 100000 = some e) : False := by
  unfold zi at h
  cases h1 : zget zia (mi / 16) with
  | none => rw [h1] at h; cases h
  | some g =>
    rw [h1] at h
    dsimp only at h
    cases h2 : zget g (mi % 16) with
    | none => rw [h2] at h; cases h
    | some t =>
      rw [h2] at h
      have q := List.all_eq_true.mp (List.all_eq_true.mp zi_none g (zget_mem h1)) t (zget_mem h2)
      have e1 : 100000 / 16 = 6250 := rfl
      rw [e1] at h
      dsimp only at h
      cases h3 : zget t 6250 with
      | none => rw [h3] at h; cases h
      | some r =>
        rw [h3] at q
        cases q
theorem zr_more : ∀ (f d mi stop : Nat) (x : zC) (o : zC ⊕ (Option Value × zH)), zr f d mi stop x = some o → zr (f + 1) d mi stop x = some o
  | 0, _, _, _, _, _, h => by cases h
  | f + 1, d, mi, stop, x, o, h => by
    rw [zr]
    rcases zr_step h with ⟨e1, rfl⟩ | ⟨e, he, hq⟩
    · rw [e1, Nat.beq_refl]
      rfl
    · cases hb : Nat.beq x.1 stop
      · rw [he]
        dsimp only [cond_false]
        rcases hq with ⟨y, hy, hr⟩ | ⟨r, hy, rfl⟩ | ⟨a, as, y, d1, r, h1, hy, rfl, hl, h2, h3⟩
        · rw [hy]
          exact zr_more f d mi stop y o hr
        · rw [hy]
        · rw [hy]
          dsimp only
          rw [hl, Nat.beq_refl]
          dsimp only [cond_true]
          rw [zr_more f d1 a 100000 _ _ h2]
          exact zr_more f (d1 + 1) mi stop _ o h3
      · have h0 := h
        rw [zr, hb] at h0
        exact h0
theorem zr_le {f f' d mi stop : Nat} {x : zC} {o : zC ⊕ (Option Value × zH)} (hl : f ≤ f') (h : zr f d mi stop x = some o) : zr f' d mi stop x = some o := by
  obtain ⟨k, rfl⟩ := Nat.exists_eq_add_of_le hl
  induction k with
  | zero => exact h
  | succ k ih => exact zr_more _ _ _ _ _ _ (ih (by omega))
theorem zxr_more : ∀ (n : Nat) (fs : List zFr) (h : zH), zxr n fs h = true → zxr (n + 1) fs h = true
  | 0, _, _, h => by cases h
  | n + 1, [], _, h => by cases h
  | n + 1, (mi, pc, lo, st) :: fs, h, q => by
    rw [zxr] at q ⊢
    cases hz : zi mi pc with
    | none => rw [hz] at q; cases q
    | some e =>
      rw [hz] at q
      dsimp only at q ⊢
      cases hs : zstep e (pc, lo, st, h) with
      | none => rw [hs] at q; cases q
      | some w =>
        rw [hs] at q
        match w, q with
        | .inl y, q => exact zxr_more n _ _ q
        | .inr (.inr r), q =>
          cases fs with
          | nil => exact q
          | cons g fs2 => exact zxr_more n _ _ q
        | .inr (.inl (a, as, y)), q =>
          dsimp only at q ⊢
          rw [Bool.and_eq_true] at q ⊢
          exact ⟨q.1, zxr_more n _ _ q.2⟩
theorem zxr_le {n n' : Nat} {fs : List zFr} {h : zH} (hl : n ≤ n') (q : zxr n fs h = true) : zxr n' fs h = true := by
  obtain ⟨k, rfl⟩ := Nat.exists_eq_add_of_le hl
  induction k with
  | zero => exact q
  | succ k ih => exact zxr_more _ _ _ (ih (by omega))
/-- the frames' run is a run, and what is left of it -/
theorem zxr_zr : ∀ (n mi pc : Nat) (lo : List (Option Value)) (st : List Value) (fs : List zFr) (h : zH), zxr n ((mi, pc, lo, st) :: fs) h = true → fs.length ≤ 60 → ∃ r h1, zr n (60 - fs.length) mi 100000 (pc, lo, st, h) = some (.inr (r, h1)) ∧ (fs = [] → zfin r h1 = true) ∧ ∀ mi2 pc2 lo2 st2 fs2, fs = (mi2, pc2, lo2, st2) :: fs2 → ∃ n', n' < n ∧ zxr n' ((mi2, pc2, lo2, r.toList ++ st2) :: fs2) h1 = true := by
  intro n
  induction n using Nat.strongRecOn with
  | ind n ih =>
    intro mi pc lo st fs h q hl
    cases n with
    | zero => cases q
    | succ n =>
      rw [zxr] at q
      cases hz : zi mi pc with
      | none => rw [hz] at q; cases q
      | some e =>
        rw [hz] at q
        dsimp only at q
        have hne : Nat.beq pc 100000 = false := by
          cases hb : Nat.beq pc 100000
          · rfl
          · have e1 := Nat.eq_of_beq_eq_true hb
            subst e1
            exact (zi_stop hz).elim
        cases hs : zstep e (pc, lo, st, h) with
        | none => rw [hs] at q; cases q
        | some w =>
          rw [hs] at q
          match w, q, hs with
          | .inl y, q, hs =>
            obtain ⟨r, h1, g1, g2, g3⟩ := ih n (Nat.lt_succ_self n) mi y.1 y.2.1 y.2.2.1 fs y.2.2.2 q hl
            refine ⟨r, h1, ?_, g2, fun a b c d e f => ?_⟩
            · rw [zr, hne, hz]
              dsimp only [cond_false]
              rw [hs]
              exact g1
            · obtain ⟨n', n1, n2⟩ := g3 a b c d e f
              exact ⟨n', by omega, n2⟩
          | .inr (.inr r), q, hs =>
            refine ⟨r, h, ?_, ?_, ?_⟩
            · rw [zr, hne, hz]
              dsimp only [cond_false]
              rw [hs]
            · intro ef
              subst ef
              exact q
            · intro a b c d e ef
              subst ef
              exact ⟨n, Nat.lt_succ_self n, q⟩
          | .inr (.inl (a, as, y)), q, hs =>
            dsimp only at q
            rw [Bool.and_eq_true, Bool.and_eq_true] at q
            obtain ⟨⟨q1, q2⟩, q3⟩ := q
            have q1 : fs.length < 60 := Nat.ble_eq.mp q1
            obtain ⟨r1, h1, g1, -, g3⟩ := ih n (Nat.lt_succ_self n) a 0 _ [] _ h q3 (by simp only [List.length_cons]; omega)
            obtain ⟨n', n1, n2⟩ := g3 _ _ _ _ _ rfl
            obtain ⟨r, h2, k1, k2, k3⟩ := ih n' (by omega) mi y.1 y.2.1 (r1.toList ++ y.2.2.1) fs h1 n2 hl
            refine ⟨r, h2, ?_, k2, fun a b c d e f => ?_⟩
            · rw [zr, hne, hz]
              dsimp only [cond_false]
              rw [hs]
              dsimp only
              obtain ⟨d1, hd1⟩ : ∃ d1, 60 - fs.length = d1 + 1 := ⟨60 - fs.length - 1, by omega⟩
              rw [hd1]
              dsimp only
              rw [q2]
              dsimp only [cond_true]
              have hd2 : 60 - ((mi, y.1, y.2.1, y.2.2.1) :: fs : List zFr).length = d1 := by simp only [List.length_cons]; omega
              rw [hd2] at g1
              rw [g1]
              dsimp only
              rw [← hd1]
              exact zr_le (by omega) k1
            · obtain ⟨n'', m1, m2⟩ := k3 a b c d e f
              exact ⟨n'', by omega, m2⟩
