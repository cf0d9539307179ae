theorem sspec_ok {E : Nat → Int32} {L : Nat} {cs : sI} {T T' : sT} {pc len a b k3 op : Nat} {v : Value} {sw : List (Int32 × Nat)} {lo : List (Option Value)} {st : List Value} {h : zH} {o : zO} (hL : L < 2 ^ 31) (hh : sHd h) (hE : sEnv E) (hs : sSat E cs) (h0 : spec L cs T (op, len, a, b, k3, v, sw) (pc, lo, st, h) = some (.inr (T', o))) : zstep (op, len, a, b, k3, v, sw) (sC E L T (pc, lo, st, h)) = some (sO E L T' o) := by
  match op, h0 with
  | 0, h0 => cases h0
  | 1, h0 => exact sr_1 h0
  | 2, h0 => exact sr_2 h0
  | 3, h0 => cases h0
  | 4, h0 => exact sr_4 h0
  | 5, h0 => exact sr_5 h0
  | 6, h0 => cases h0
  | 7, h0 => exact sr_7 hE h0
  | 8, h0 => exact sr_8 hE h0
  | 9, h0 => cases h0
  | 10, h0 => exact sr_10 h0
  | 11, h0 => exact sr_11 h0
  | 12, h0 => exact sr_12 h0
  | 13, h0 => exact sr_13 h0
  | 14, h0 => exact sr_14 hs h0
  | 15, h0 => exact sr_15 hs h0
  | 16, h0 => exact sr_16 hs h0
  | 17, h0 => cases h0
  | 18, h0 => exact sr_18 hs h0
  | 19, h0 => cases h0
  | 20, h0 => cases h0
  | 21, h0 => exact sr_21 hh h0
  | 22, h0 => exact sr_22 hL h0
  | 23, h0 => cases h0
  | 24, h0 => cases h0
  | 25, h0 => exact sr_25 hh h0
  | 26, h0 => cases h0
  | 27, h0 => cases h0
  | 28, h0 => exact sr_28 h0
  | 29, h0 => cases h0
  | 30, h0 => cases h0
  | 31, h0 => cases h0
  | 32, h0 => cases h0
  | 33, h0 => cases h0
  | 34, h0 => cases h0
  | 35, h0 => exact sr_35 h0
  | 36, h0 => exact sr_36 h0
  | _ + 37, h0 => cases h0
theorem sstep_ok {E : Nat → Int32} {L : Nat} {cs : sI} {T T' : sT} {e : zI} {x : zC} {o : zO} (hL : L < 2 ^ 31) (hh : sHd x.2.2.2) (hE : sEnv E) (hs : sSat E cs) (h0 : sstep L cs T e x = some (.inr (T', o))) : zstep e (sC E L T x) = some (sO E L T' o) := by
  obtain ⟨op, len, a, b, k3, v, sw⟩ := e
  obtain ⟨pc, lo, st, h⟩ := x
  unfold sstep at h0
  cases hq : spec L cs T (op, len, a, b, k3, v, sw) (pc, lo, st, h) with
  | some r =>
    rw [hq] at h0
    cases h0
    exact sspec_ok hL hh hE hs hq
  | none =>
    rw [hq] at h0
    dsimp only at h0
    cases hb : (okT T (op, len, a, b, k3, v, sw) st && sokv v)
    · rw [hb] at h0; cases h0
    · rw [hb] at h0
      dsimp only [cond_true] at h0
      rw [Bool.and_eq_true] at hb
      cases hz : zstep (op, len, a, b, k3, v, sw) (pc, lo, st, h) with
      | some o' =>
        rw [hz] at h0
        cases h0
        exact zsub hh (by cases v <;> first | rfl | cases hb.2) hb.1 hz
      | none =>
        rw [hz] at h0
        dsimp only at h0
        split at h0
        · cases h0
        · cases h0
section SY
variable {L : Nat} {cs : sI} {T T' : sT} {pc len a b k3 : Nat} {v : Value} {sw : List (Int32 × Nat)} {lo : List (Option Value)} {st : List Value} {h : zH} {o : zO}
theorem sh_1 (h0 : sq1 len a T (pc, lo, st, h) = some (.inr (T', o))) : (∃ y, o = .inl y ∧ y.2.2.2 = h) ∨ ((∃ r, o = .inr (.inr r)) ∧ T' = T) := by
  simp only [sq1, sgo, Bool.cond_eq_ite] at h0
  repeat' split at h0
  all_goals first
    | (cases h0; done)
    | (cases h0; exact Or.inl ⟨_, rfl, rfl⟩)
    | (cases h0; exact Or.inr ⟨⟨_, rfl⟩, rfl⟩)
theorem sh_2 (h0 : sq2 len a T (pc, lo, st, h) = some (.inr (T', o))) : (∃ y, o = .inl y ∧ y.2.2.2 = h) ∨ ((∃ r, o = .inr (.inr r)) ∧ T' = T) := by
  simp only [sq2, sgo, Bool.cond_eq_ite] at h0
  repeat' split at h0
  all_goals first
    | (cases h0; done)
    | (cases h0; exact Or.inl ⟨_, rfl, rfl⟩)
    | (cases h0; exact Or.inr ⟨⟨_, rfl⟩, rfl⟩)
theorem sh_4 (h0 : sq4 len a T (pc, lo, st, h) = some (.inr (T', o))) : (∃ y, o = .inl y ∧ y.2.2.2 = h) ∨ ((∃ r, o = .inr (.inr r)) ∧ T' = T) := by
  simp only [sq4, sgo, Bool.cond_eq_ite] at h0
  repeat' split at h0
  all_goals first
    | (cases h0; done)
    | (cases h0; exact Or.inl ⟨_, rfl, rfl⟩)
    | (cases h0; exact Or.inr ⟨⟨_, rfl⟩, rfl⟩)
theorem sh_5 (h0 : sq5 len a T (pc, lo, st, h) = some (.inr (T', o))) : (∃ y, o = .inl y ∧ y.2.2.2 = h) ∨ ((∃ r, o = .inr (.inr r)) ∧ T' = T) := by
  simp only [sq5, sgo, Bool.cond_eq_ite] at h0
  repeat' split at h0
  all_goals first
    | (cases h0; done)
    | (cases h0; exact Or.inl ⟨_, rfl, rfl⟩)
    | (cases h0; exact Or.inr ⟨⟨_, rfl⟩, rfl⟩)
theorem sh_7 (h0 : sq7 len b T (pc, lo, st, h) = some (.inr (T', o))) : (∃ y, o = .inl y ∧ y.2.2.2 = h) ∨ ((∃ r, o = .inr (.inr r)) ∧ T' = T) := by
  simp only [sq7, sgo, Bool.cond_eq_ite] at h0
  repeat' split at h0
  all_goals first
    | (cases h0; done)
    | (cases h0; exact Or.inl ⟨_, rfl, rfl⟩)
    | (cases h0; exact Or.inr ⟨⟨_, rfl⟩, rfl⟩)
theorem sh_8 (h0 : sq8 len b T (pc, lo, st, h) = some (.inr (T', o))) : (∃ y, o = .inl y ∧ y.2.2.2 = h) ∨ ((∃ r, o = .inr (.inr r)) ∧ T' = T) := by
  simp only [sq8, sgo, Bool.cond_eq_ite] at h0
  repeat' split at h0
  all_goals first
    | (cases h0; done)
    | (cases h0; exact Or.inl ⟨_, rfl, rfl⟩)
    | (cases h0; exact Or.inr ⟨⟨_, rfl⟩, rfl⟩)
theorem sh_10 (h0 : sq10 len T (pc, lo, st, h) = some (.inr (T', o))) : (∃ y, o = .inl y ∧ y.2.2.2 = h) ∨ ((∃ r, o = .inr (.inr r)) ∧ T' = T) := by
  simp only [sq10, sgo, Bool.cond_eq_ite] at h0
  repeat' split at h0
  all_goals first
    | (cases h0; done)
    | (cases h0; exact Or.inl ⟨_, rfl, rfl⟩)
    | (cases h0; exact Or.inr ⟨⟨_, rfl⟩, rfl⟩)
theorem sh_11 (h0 : sq11 len T (pc, lo, st, h) = some (.inr (T', o))) : (∃ y, o = .inl y ∧ y.2.2.2 = h) ∨ ((∃ r, o = .inr (.inr r)) ∧ T' = T) := by
  simp only [sq11, sgo, Bool.cond_eq_ite] at h0
  repeat' split at h0
  all_goals first
    | (cases h0; done)
    | (cases h0; exact Or.inl ⟨_, rfl, rfl⟩)
    | (cases h0; exact Or.inr ⟨⟨_, rfl⟩, rfl⟩)
theorem sh_12 (h0 : sq12 len b T (pc, lo, st, h) = some (.inr (T', o))) : (∃ y, o = .inl y ∧ y.2.2.2 = h) ∨ ((∃ r, o = .inr (.inr r)) ∧ T' = T) := by
  simp only [sq12, sgo, Bool.cond_eq_ite] at h0
  repeat' split at h0
  all_goals first
    | (cases h0; done)
    | (cases h0; exact Or.inl ⟨_, rfl, rfl⟩)
    | (cases h0; exact Or.inr ⟨⟨_, rfl⟩, rfl⟩)
theorem sh_13 (h0 : sq13 len T (pc, lo, st, h) = some (.inr (T', o))) : (∃ y, o = .inl y ∧ y.2.2.2 = h) ∨ ((∃ r, o = .inr (.inr r)) ∧ T' = T) := by
  simp only [sq13, sgo, Bool.cond_eq_ite] at h0
  repeat' split at h0
  all_goals first
    | (cases h0; done)
    | (cases h0; exact Or.inl ⟨_, rfl, rfl⟩)
    | (cases h0; exact Or.inr ⟨⟨_, rfl⟩, rfl⟩)
theorem sh_14 (h0 : sq14 len cs T (pc, lo, st, h) = some (.inr (T', o))) : (∃ y, o = .inl y ∧ y.2.2.2 = h) ∨ ((∃ r, o = .inr (.inr r)) ∧ T' = T) := by
  simp only [sq14, sgo, Bool.cond_eq_ite] at h0
  repeat' split at h0
  all_goals first
    | (cases h0; done)
    | (cases h0; exact Or.inl ⟨_, rfl, rfl⟩)
    | (cases h0; exact Or.inr ⟨⟨_, rfl⟩, rfl⟩)
theorem sh_15 (h0 : sq15 len a b cs T (pc, lo, st, h) = some (.inr (T', o))) : (∃ y, o = .inl y ∧ y.2.2.2 = h) ∨ ((∃ r, o = .inr (.inr r)) ∧ T' = T) := by
  simp only [sq15, sgo, Bool.cond_eq_ite] at h0
  repeat' split at h0
  all_goals first
    | (cases h0; done)
    | (cases h0; exact Or.inl ⟨_, rfl, rfl⟩)
    | (cases h0; exact Or.inr ⟨⟨_, rfl⟩, rfl⟩)
theorem sh_16 (h0 : sq16 len a b cs T (pc, lo, st, h) = some (.inr (T', o))) : (∃ y, o = .inl y ∧ y.2.2.2 = h) ∨ ((∃ r, o = .inr (.inr r)) ∧ T' = T) := by
  simp only [sq16, sgo, Bool.cond_eq_ite] at h0
  repeat' split at h0
  all_goals first
    | (cases h0; done)
    | (cases h0; exact Or.inl ⟨_, rfl, rfl⟩)
    | (cases h0; exact Or.inr ⟨⟨_, rfl⟩, rfl⟩)
theorem sh_18 (h0 : sq18 a sw cs T (pc, lo, st, h) = some (.inr (T', o))) : (∃ y, o = .inl y ∧ y.2.2.2 = h) ∨ ((∃ r, o = .inr (.inr r)) ∧ T' = T) := by
  simp only [sq18, sgo, Bool.cond_eq_ite] at h0
  repeat' split at h0
  all_goals first
    | (cases h0; done)
    | (cases h0; exact Or.inl ⟨_, rfl, rfl⟩)
    | (cases h0; exact Or.inr ⟨⟨_, rfl⟩, rfl⟩)
theorem sh_21 (h0 : sq21 len a b k3 T (pc, lo, st, h) = some (.inr (T', o))) : (∃ y, o = .inl y ∧ y.2.2.2 = h) ∨ ((∃ r, o = .inr (.inr r)) ∧ T' = T) := by
  simp only [sq21, sgo, Bool.cond_eq_ite] at h0
  repeat' split at h0
  all_goals first
    | (cases h0; done)
    | (cases h0; exact Or.inl ⟨_, rfl, rfl⟩)
    | (cases h0; exact Or.inr ⟨⟨_, rfl⟩, rfl⟩)
theorem sh_22 (h0 : sq22 L len T (pc, lo, st, h) = some (.inr (T', o))) : (∃ y, o = .inl y ∧ y.2.2.2 = h) ∨ ((∃ r, o = .inr (.inr r)) ∧ T' = T) := by
  simp only [sq22, sgo, Bool.cond_eq_ite] at h0
  repeat' split at h0
  all_goals first
    | (cases h0; done)
    | (cases h0; exact Or.inl ⟨_, rfl, rfl⟩)
    | (cases h0; exact Or.inr ⟨⟨_, rfl⟩, rfl⟩)
theorem sh_25 (h0 : sq25 len T (pc, lo, st, h) = some (.inr (T', o))) : (∃ y, o = .inl y ∧ y.2.2.2 = h) ∨ ((∃ r, o = .inr (.inr r)) ∧ T' = T) := by
  simp only [sq25, sgo, Bool.cond_eq_ite] at h0
  repeat' split at h0
  all_goals first
    | (cases h0; done)
    | (cases h0; exact Or.inl ⟨_, rfl, rfl⟩)
    | (cases h0; exact Or.inr ⟨⟨_, rfl⟩, rfl⟩)
theorem sh_28 (h0 : sq28 L len T (pc, lo, st, h) = some (.inr (T', o))) : (∃ y, o = .inl y ∧ y.2.2.2 = h) ∨ ((∃ r, o = .inr (.inr r)) ∧ T' = T) := by
  simp only [sq28, sgo, Bool.cond_eq_ite] at h0
  repeat' split at h0
  all_goals first
    | (cases h0; done)
    | (cases h0; exact Or.inl ⟨_, rfl, rfl⟩)
    | (cases h0; exact Or.inr ⟨⟨_, rfl⟩, rfl⟩)
theorem sh_35 (h0 : sq35 k3 T (pc, lo, st, h) = some (.inr (T', o))) : (∃ y, o = .inl y ∧ y.2.2.2 = h) ∨ ((∃ r, o = .inr (.inr r)) ∧ T' = T) := by
  simp only [sq35, sgo, Bool.cond_eq_ite] at h0
  repeat' split at h0
  all_goals first
    | (cases h0; done)
    | (cases h0; exact Or.inl ⟨_, rfl, rfl⟩)
    | (cases h0; exact Or.inr ⟨⟨_, rfl⟩, rfl⟩)
theorem sh_36 (h0 : sq36 T (pc, lo, st, h) = some (.inr (T', o))) : (∃ y, o = .inl y ∧ y.2.2.2 = h) ∨ ((∃ r, o = .inr (.inr r)) ∧ T' = T) := by
  simp only [sq36, sgo, Bool.cond_eq_ite] at h0
  repeat' split at h0
  all_goals first
    | (cases h0; done)
    | (cases h0; exact Or.inl ⟨_, rfl, rfl⟩)
    | (cases h0; exact Or.inr ⟨⟨_, rfl⟩, rfl⟩)
theorem sh_all {op : Nat} (h0 : spec L cs T (op, len, a, b, k3, v, sw) (pc, lo, st, h) = some (.inr (T', o))) : (∃ y, o = .inl y ∧ y.2.2.2 = h) ∨ ((∃ r, o = .inr (.inr r)) ∧ T' = T) := by
  match op, h0 with
  | 0, h0 => cases h0
  | 1, h0 => exact sh_1 h0
  | 2, h0 => exact sh_2 h0
  | 3, h0 => cases h0
  | 4, h0 => exact sh_4 h0
  | 5, h0 => exact sh_5 h0
  | 6, h0 => cases h0
  | 7, h0 => exact sh_7 h0
  | 8, h0 => exact sh_8 h0
  | 9, h0 => cases h0
  | 10, h0 => exact sh_10 h0
  | 11, h0 => exact sh_11 h0
  | 12, h0 => exact sh_12 h0
  | 13, h0 => exact sh_13 h0
  | 14, h0 => exact sh_14 h0
  | 15, h0 => exact sh_15 h0
  | 16, h0 => exact sh_16 h0
  | 17, h0 => cases h0
  | 18, h0 => exact sh_18 (pc := pc) h0
  | 19, h0 => cases h0
  | 20, h0 => cases h0
  | 21, h0 => exact sh_21 h0
  | 22, h0 => exact sh_22 h0
  | 23, h0 => cases h0
  | 24, h0 => cases h0
  | 25, h0 => exact sh_25 h0
  | 26, h0 => cases h0
  | 27, h0 => cases h0
  | 28, h0 => exact sh_28 h0
  | 29, h0 => cases h0
  | 30, h0 => cases h0
  | 31, h0 => cases h0
  | 32, h0 => cases h0
  | 33, h0 => cases h0
  | 34, h0 => cases h0
  | 35, h0 => exact sh_35 (pc := pc) (lo := lo) h0
  | 36, h0 => exact sh_36 (pc := pc) (lo := lo) h0
  | _ + 37, h0 => cases h0
end SY
theorem sstep_sh {L : Nat} {cs : sI} {T T' : sT} {e : zI} {x : zC} {o : zO} (hh : sHd x.2.2.2) (h0 : sstep L cs T e x = some (.inr (T', o))) : (∀ y, o = .inl y → sHd y.2.2.2) ∧ ((∀ y, o ≠ .inl y) → T' = T) := by
  obtain ⟨op, len, a, b, k3, v, sw⟩ := e
  obtain ⟨pc, lo, st, h⟩ := x
  unfold sstep at h0
  cases hq : spec L cs T (op, len, a, b, k3, v, sw) (pc, lo, st, h) with
  | some r =>
    rw [hq] at h0
    cases h0
    rcases sh_all hq with ⟨y, rfl, e⟩ | ⟨⟨r, rfl⟩, e⟩
    · refine ⟨fun y' e' => ?_, fun q => absurd rfl (q y)⟩
      cases e'
      rw [e]
      exact hh
    · exact ⟨fun y e' => (by cases e'), fun _ => e⟩
  | none =>
    rw [hq] at h0
    dsimp only at h0
    cases hb : (okT T (op, len, a, b, k3, v, sw) st && sokv v)
    · rw [hb] at h0; cases h0
    · rw [hb] at h0
      dsimp only [cond_true] at h0
      cases hz : zstep (op, len, a, b, k3, v, sw) (pc, lo, st, h) with
      | some o' =>
        rw [hz] at h0
        cases h0
        refine ⟨fun y ey => ?_, fun _ => rfl⟩
        subst ey
        rcases zg_all hz with ⟨y', q, e1, e2⟩ | ⟨-, as, y', e1⟩ | ⟨r, e1⟩
        · cases e1
          obtain ⟨tl, e3⟩ := hh
          have e2 : y.2.2.2.1 = h.1 ++ q := e2
          have e3 : h.1 = (9, 0) :: tl := e3
          exact ⟨tl ++ q, by rw [e2, e3]; rfl⟩
        · cases e1
        · cases e1
      | none =>
        rw [hz] at h0
        dsimp only at h0
        split at h0
        · cases h0
        · cases h0
theorem siv_put {cs : sI} {k j : Nat} {q : Nat × Nat} : siv (zput cs k q) j = siv cs j ∨ (j = k ∧ siv (zput cs k q) j = q) := by
  by_cases hj : j = k
  · subst hj
    rcases Nat.lt_or_ge j cs.length with hl | hl
    · right
      refine ⟨rfl, ?_⟩
      unfold siv
      rw [zget_put_eq _ _ _ hl]
    · left
      unfold siv
      have n1 : zget (zput cs j q) j = none := by
        cases hz : zget (zput cs j q) j with
        | none => rfl
        | some w =>
          have := zget_lt hz
          rw [zput_length] at this
          omega
      have n2 : zget cs j = none := by
        cases hz : zget cs j with
        | none => rfl
        | some w =>
          have := zget_lt hz
          omega
      rw [n1, n2]
  · left
    unfold siv
    rw [zget_put_ne _ _ _ _ hj]
theorem scut1_ok {E : Nat → Int32} {cs : sI} {k c : Nat} (hs : sSat E cs) (h : zo (E k) < c) : sSat E (scut1 cs k c) := by
  intro j
  unfold scut1
  rcases siv_put (cs := cs) (k := k) (j := j) (q := ((siv cs k).1, bif Nat.ble c (siv cs k).2 then c - 1 else (siv cs k).2)) with e | ⟨rfl, e⟩
  · rw [e]
    exact hs j
  · rw [e]
    have q := hs j
    cases Nat.ble c (siv cs j).2
    · exact q
    · exact ⟨q.1, by dsimp only [cond_true]; omega⟩
theorem scut2_ok {E : Nat → Int32} {cs : sI} {k c : Nat} (hs : sSat E cs) (h : c ≤ zo (E k)) : sSat E (scut2 cs k c) := by
  intro j
  unfold scut2
  rcases siv_put (cs := cs) (k := k) (j := j) (q := (bif Nat.ble (siv cs k).1 c then c else (siv cs k).1, (siv cs k).2)) with e | ⟨rfl, e⟩
  · rw [e]
    exact hs j
  · rw [e]
    have q := hs j
    cases Nat.ble (siv cs j).1 c
    · exact q
    · exact ⟨h, q.2⟩
def sFr (E : Nat → Int32) : zFr → zFr := fun (mi, pc, lo, st) => (mi, pc, slo E lo, st.map (sval E))
theorem sfin_ok {E : Nat → Int32} {L : Nat} {T : sT} {r : Option Value} {h : zH} (hL : L ≤ 1000) (hh : sHd h) (q : sfin r h = true) : zfin (r.map (sval E)) (sH E L T h) = true := by
  unfold sfin at q
  rw [Bool.and_eq_true, Bool.and_eq_true, decide_eq_true_eq, Nat.ble_eq, Nat.ble_eq] at q
  obtain ⟨rfl, q2, q3⟩ := q
  unfold zfin
  rw [Bool.and_eq_true, Bool.and_eq_true, decide_eq_true_eq, Nat.ble_eq, Nat.ble_eq]
  refine ⟨rfl, ?_, ?_⟩
  · show (ssh L h.1).length ≤ _
    rw [ssh_len hh]
    exact q2
  · show zslots (ssh L h.1) ≤ _
    obtain ⟨tl, e⟩ := hh
    rw [e] at q3 ⊢
    show L + zslots tl ≤ _
    have q3 : 0 + zslots tl ≤ 6000000 := q3
    omega
/-- THE EXECUTOR'S WORD -/
theorem sx_ok {E : Nat → Int32} {L : Nat} (hL : L ≤ 1000) (hE : sEnv E) : ∀ (n : Nat) (cs : sI) (T : sT) (fs : List zFr) (h : zH), sx L n cs T fs h = true → sHd h → sSat E cs → zxr n (fs.map (sFr E)) (sH E L T h) = true
  | 0, _, _, _, _, q, _, _ => by cases q
  | n + 1, _, _, [], _, q, _, _ => by cases q
  | n + 1, cs, T, (mi, pc, lo, st) :: fs, h, q, hh, hs => by
    have hL2 : L < 2 ^ 31 := by omega
    have whole := q
    rw [sx] at q
    cases hz : zi mi pc with
    | none => rw [hz] at q; cases q
    | some e =>
      rw [hz] at q
      dsimp only at q
      cases hq : sstep L cs T e (pc, lo, snst cs st, h) with
      | none => rw [hq] at q; cases q
      | some w =>
        rw [hq] at q
        have est : sC E L T (pc, lo, snst cs st, h) = (pc, slo E lo, st.map (sval E), sH E L T h) := by
          unfold sC
          dsimp only
          rw [snst_ok hs]
        match w, q, hq with
        | .inl (k, c), q, hq =>
          dsimp only at q
          rw [Bool.and_eq_true] at q
          rcases Nat.lt_or_ge (zo (E k)) c with hc | hc
          · exact zxr_more _ _ _ (sx_ok hL hE n _ T _ h q.1 hh (scut1_ok hs hc))
          · exact zxr_more _ _ _ (sx_ok hL hE n _ T _ h q.2 hh (scut2_ok hs hc))
        | .inr (T', .inl y), q, hq =>
          have hok := sstep_ok (x := (pc, lo, snst cs st, h)) hL2 hh hE hs hq
          rw [est] at hok
          have hn := sx_ok hL hE n cs T' _ y.2.2.2 q ((sstep_sh (x := (pc, lo, snst cs st, h)) hh hq).1 y rfl) hs
          show zxr (n + 1) ((mi, pc, slo E lo, st.map (sval E)) :: fs.map (sFr E)) (sH E L T h) = true
          rw [zxr, hz]
          dsimp only
          rw [hok]
          exact hn
        | .inr (T', .inr (.inr r)), q, hq =>
          have hok := sstep_ok (x := (pc, lo, snst cs st, h)) hL2 hh hE hs hq
          rw [est] at hok
          have eT0 : T' = T := (sstep_sh (x := (pc, lo, snst cs st, h)) hh hq).2 (fun y e' => by cases e')
          subst eT0
          show zxr (n + 1) ((mi, pc, slo E lo, st.map (sval E)) :: fs.map (sFr E)) (sH E L T' h) = true
          rw [zxr, hz]
          dsimp only
          rw [hok]
          cases fs with
          | nil => exact sfin_ok hL hh q
          | cons g fs2 =>
            obtain ⟨mi2, pc2, lo2, st2⟩ := g
            have hn := sx_ok hL hE n cs T' _ h q hh hs
            have es : (r.map (sval E)).toList ++ st2.map (sval E) = (r.toList ++ st2).map (sval E) := by cases r <;> simp
            show zxr n ((mi2, pc2, slo E lo2, (r.map (sval E)).toList ++ st2.map (sval E)) :: fs2.map (sFr E)) (sH E L T' h) = true
            rw [es]
            exact hn
        | .inr (T', .inr (.inl (a, as, y))), q, hq =>
          have hok := sstep_ok (x := (pc, lo, snst cs st, h)) hL2 hh hE hs hq
          rw [est] at hok
          dsimp only at q
          rw [Bool.and_eq_true] at q
          obtain ⟨qa, qb⟩ := q
          have eT0 : T' = T := (sstep_sh (x := (pc, lo, snst cs st, h)) hh hq).2 (fun y e' => by cases e')
          subst eT0
          have hn := sx_ok hL hE n cs T' _ h qb hh hs
          show zxr (n + 1) ((mi, pc, slo E lo, st.map (sval E)) :: fs.map (sFr E)) (sH E L T' h) = true
          rw [zxr, hz]
          dsimp only
          rw [hok]
          dsimp only [sO]
          rw [Bool.and_eq_true]
          refine ⟨?_, ?_⟩
          · rw [List.length_map, zargs_s, zpad_s, slo_len]
            exact qa
          · rw [zargs_s, zpad_s]
            exact hn
