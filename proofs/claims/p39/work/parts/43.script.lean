/-! RUNS WITH THE SCRIPT PUT IN: a run that never looks at cell 0 goes the same way over any script. -/
theorem okT_nil {e : zI} {st : List Value} : okT [] e st = true := by
  unfold okT
  repeat' split
  all_goals rfl
theorem zi_sokv1 : zia.all (fun g => g.all (fun t => t.all (fun r => r.all (fun e => match e with
  | some e => sokv e.2.2.2.2.2.1
  | none => true)))) = true := by decide +kernel
theorem zi_sokv {mi pc : Nat} {e : zI} (h : zi mi pc = some e) : sokv e.2.2.2.2.2.1 = true := by
  unfold zi at h
  cases h1 : zget zia (mi / 16) with
  | none => rw [h1] at h; cases h
  | some g =>
    rw [h1] at h
    dsimp only at h
    cases h2 : zget g (mi % 16) with
    | none => rw [h2] at h; cases h
    | some t =>
      rw [h2] at h
      dsimp only at h
      cases h3 : zget t (pc / 16) with
      | none => rw [h3] at h; cases h
      | some r =>
        rw [h3] at h
        dsimp only at h
        cases h4 : zget r (pc % 16) with
        | none => rw [h4] at h; cases h
        | some e' =>
          rw [h4] at h
          dsimp only at h
          subst h
          exact List.all_eq_true.mp (List.all_eq_true.mp (List.all_eq_true.mp (List.all_eq_true.mp zi_sokv1 g (zget_mem h1)) t (zget_mem h2)) r (zget_mem h3)) _ (zget_mem h4)
theorem sokv_val {E : Nat → Int32} {v : Value} (h : sokv v = true) : sval E v = v := by
  cases v <;> first
    | rfl
    | cases h
def sOO (E : Nat → Int32) (L : Nat) : zC ⊕ (Option Value × zH) → zC ⊕ (Option Value × zH)
  | .inl y => .inl (sC E L [] y)
  | .inr q => .inr (q.1.map (sval E), sH E L [] q.2)
theorem sHd_app {h h1 : zH} {q : List (Nat × Nat)} (hh : sHd h) (e : h1.1 = h.1 ++ q) : sHd h1 := by
  obtain ⟨tl, ht⟩ := hh
  exact ⟨tl ++ q, by rw [e, ht]; rfl⟩
theorem zr_sub {E : Nat → Int32} {L : Nat} : ∀ (f d mi stop : Nat) (x : zC) (o : zC ⊕ (Option Value × zH)), zr f d mi stop x = some o → sHd x.2.2.2 → zr f d mi stop (sC E L [] x) = some (sOO E L o)
  | 0, _, _, _, _, _, h, _ => by cases h
  | f + 1, d, mi, stop, x, o, h, hh => by
    have h' := h
    rw [zr]
    rw [show (sC E L [] x).1 = x.1 from rfl]
    cases hb : Nat.beq x.1 stop
    · rcases zr_step h with ⟨e1, -⟩ | ⟨e, he, hq⟩
      · rw [e1, Nat.beq_refl] at hb
        cases hb
      · rw [he]
        dsimp only [cond_false]
        have hv := zi_sokv he
        obtain ⟨op, len, a, b, c, v, sw⟩ := e
        obtain ⟨pc, lo, st, hp⟩ := x
        rcases hq with ⟨y, hy, hr⟩ | ⟨r, hy, rfl⟩ | ⟨a', as, y, d1, r, h1, hy, rfl, hl, h2, h3⟩
        · rw [zsub hh (sokv_val hv) okT_nil hy]
          have hy' : sHd y.2.2.2 := by
            rcases zg_all hy with ⟨y', q, e1, e2⟩ | ⟨-, as, y', e1⟩ | ⟨r, e1⟩
            · cases e1
              exact sHd_app hh e2
            · cases e1
            · cases e1
          exact zr_sub f d mi stop y o hr hy'
        · rw [zsub hh (sokv_val hv) okT_nil hy]
          rfl
        · rw [zsub hh (sokv_val hv) okT_nil hy]
          have ea : zpad (zL a') (zargs (as.map (sval E))) = slo E (zpad (zL a') (zargs as)) := by rw [zargs_s, zpad_s]
          dsimp only [sO]
          rw [ea, slo_len, hl, Nat.beq_refl]
          dsimp only [cond_true]
          have hc := zr_sub (E := E) (L := L) f d1 a' 100000 _ _ h2 hh
          have hc : zr f d1 a' 100000 (0, slo E (zpad (zL a') (zargs as)), [], sH E L [] hp) = some (.inr (r.map (sval E), sH E L [] h1)) := hc
          rw [show (sC E L [] (pc, lo, st, hp)).2.2.2 = sH E L [] hp from rfl, hc]
          dsimp only
          obtain ⟨q, hq⟩ := zr_ext _ _ _ _ _ _ h2
          have h4 := zr_sub (E := E) (L := L) f (d1 + 1) mi stop _ o h3 (sHd_app hh hq)
          rw [← h4]
          congr 1
          unfold sC
          dsimp only
          rw [List.map_append]
          cases r <;> rfl
    · rcases zr_step h with ⟨e1, rfl⟩ | ⟨e, he, hq⟩
      · rfl
      · rw [zr, hb] at h'
        cases h'
        rfl
