/-! WHAT LIES BEHIND THE ENDS of cells is 0, and stays so. Printed by a program (wip/ai/start.py). -/
theorem zh_0 {x y : zC} {len a b c : Nat} {v : Value} {sw : List (Int32 × Nat)} (h : zs0 len v x = some (.inl y)) : y.2.2.2 = x.2.2.2 := by
  obtain ⟨pc, lo, st, h1⟩ := x
  simp only [zs0, zgo, Bool.cond_eq_ite] at h
  first
  | (cases h; rfl)
  | (repeat' split at h
     all_goals first
       | (cases h; done)
       | (cases h; rfl))
theorem zh_1 {x y : zC} {len a b c : Nat} {v : Value} {sw : List (Int32 × Nat)} (h : zs1 len a x = some (.inl y)) : y.2.2.2 = x.2.2.2 := by
  obtain ⟨pc, lo, st, h1⟩ := x
  simp only [zs1, zgo, Bool.cond_eq_ite] at h
  first
  | (cases h; rfl)
  | (repeat' split at h
     all_goals first
       | (cases h; done)
       | (cases h; rfl))
theorem zh_2 {x y : zC} {len a b c : Nat} {v : Value} {sw : List (Int32 × Nat)} (h : zs2 len a x = some (.inl y)) : y.2.2.2 = x.2.2.2 := by
  obtain ⟨pc, lo, st, h1⟩ := x
  simp only [zs2, zgo, Bool.cond_eq_ite] at h
  first
  | (cases h; rfl)
  | (repeat' split at h
     all_goals first
       | (cases h; done)
       | (cases h; rfl))
theorem zh_3 {x y : zC} {len a b c : Nat} {v : Value} {sw : List (Int32 × Nat)} (h : zs3 len a x = some (.inl y)) : y.2.2.2 = x.2.2.2 := by
  obtain ⟨pc, lo, st, h1⟩ := x
  simp only [zs3, zgo, Bool.cond_eq_ite] at h
  first
  | (cases h; rfl)
  | (repeat' split at h
     all_goals first
       | (cases h; done)
       | (cases h; rfl))
theorem zh_4 {x y : zC} {len a b c : Nat} {v : Value} {sw : List (Int32 × Nat)} (h : zs4 len a x = some (.inl y)) : y.2.2.2 = x.2.2.2 := by
  obtain ⟨pc, lo, st, h1⟩ := x
  simp only [zs4, zgo, Bool.cond_eq_ite] at h
  first
  | (cases h; rfl)
  | (repeat' split at h
     all_goals first
       | (cases h; done)
       | (cases h; rfl))
theorem zh_5 {x y : zC} {len a b c : Nat} {v : Value} {sw : List (Int32 × Nat)} (h : zs5 len a x = some (.inl y)) : y.2.2.2 = x.2.2.2 := by
  obtain ⟨pc, lo, st, h1⟩ := x
  simp only [zs5, zgo, Bool.cond_eq_ite] at h
  first
  | (cases h; rfl)
  | (repeat' split at h
     all_goals first
       | (cases h; done)
       | (cases h; rfl))
theorem zh_6 {x y : zC} {len a b c : Nat} {v : Value} {sw : List (Int32 × Nat)} (h : zs6 len a x = some (.inl y)) : y.2.2.2 = x.2.2.2 := by
  obtain ⟨pc, lo, st, h1⟩ := x
  simp only [zs6, zgo, Bool.cond_eq_ite] at h
  first
  | (cases h; rfl)
  | (repeat' split at h
     all_goals first
       | (cases h; done)
       | (cases h; rfl))
theorem zh_7 {x y : zC} {len a b c : Nat} {v : Value} {sw : List (Int32 × Nat)} (h : zs7 len b x = some (.inl y)) : y.2.2.2 = x.2.2.2 := by
  obtain ⟨pc, lo, st, h1⟩ := x
  simp only [zs7, zgo, Bool.cond_eq_ite] at h
  first
  | (cases h; rfl)
  | (repeat' split at h
     all_goals first
       | (cases h; done)
       | (cases h; rfl))
theorem zh_8 {x y : zC} {len a b c : Nat} {v : Value} {sw : List (Int32 × Nat)} (h : zs8 len b x = some (.inl y)) : y.2.2.2 = x.2.2.2 := by
  obtain ⟨pc, lo, st, h1⟩ := x
  simp only [zs8, zgo, Bool.cond_eq_ite] at h
  first
  | (cases h; rfl)
  | (repeat' split at h
     all_goals first
       | (cases h; done)
       | (cases h; rfl))
theorem zh_9 {x y : zC} {len a b c : Nat} {v : Value} {sw : List (Int32 × Nat)} (h : zs9 len b x = some (.inl y)) : y.2.2.2 = x.2.2.2 := by
  obtain ⟨pc, lo, st, h1⟩ := x
  simp only [zs9, zgo, Bool.cond_eq_ite] at h
  first
  | (cases h; rfl)
  | (repeat' split at h
     all_goals first
       | (cases h; done)
       | (cases h; rfl))
theorem zh_10 {x y : zC} {len a b c : Nat} {v : Value} {sw : List (Int32 × Nat)} (h : zs10 len x = some (.inl y)) : y.2.2.2 = x.2.2.2 := by
  obtain ⟨pc, lo, st, h1⟩ := x
  simp only [zs10, zgo, Bool.cond_eq_ite] at h
  first
  | (cases h; rfl)
  | (repeat' split at h
     all_goals first
       | (cases h; done)
       | (cases h; rfl))
theorem zh_11 {x y : zC} {len a b c : Nat} {v : Value} {sw : List (Int32 × Nat)} (h : zs11 len x = some (.inl y)) : y.2.2.2 = x.2.2.2 := by
  obtain ⟨pc, lo, st, h1⟩ := x
  simp only [zs11, zgo, Bool.cond_eq_ite] at h
  first
  | (cases h; rfl)
  | (repeat' split at h
     all_goals first
       | (cases h; done)
       | (cases h; rfl))
theorem zh_12 {x y : zC} {len a b c : Nat} {v : Value} {sw : List (Int32 × Nat)} (h : zs12 len b x = some (.inl y)) : y.2.2.2 = x.2.2.2 := by
  obtain ⟨pc, lo, st, h1⟩ := x
  simp only [zs12, zgo, Bool.cond_eq_ite] at h
  first
  | (cases h; rfl)
  | (repeat' split at h
     all_goals first
       | (cases h; done)
       | (cases h; rfl))
theorem zh_13 {x y : zC} {len a b c : Nat} {v : Value} {sw : List (Int32 × Nat)} (h : zs13 len x = some (.inl y)) : y.2.2.2 = x.2.2.2 := by
  obtain ⟨pc, lo, st, h1⟩ := x
  simp only [zs13, zgo, Bool.cond_eq_ite] at h
  first
  | (cases h; rfl)
  | (repeat' split at h
     all_goals first
       | (cases h; done)
       | (cases h; rfl))
theorem zh_14 {x y : zC} {len a b c : Nat} {v : Value} {sw : List (Int32 × Nat)} (h : zs14 len x = some (.inl y)) : y.2.2.2 = x.2.2.2 := by
  obtain ⟨pc, lo, st, h1⟩ := x
  simp only [zs14, zgo, Bool.cond_eq_ite] at h
  first
  | (cases h; rfl)
  | (repeat' split at h
     all_goals first
       | (cases h; done)
       | (cases h; rfl))
theorem zh_15 {x y : zC} {len a b c : Nat} {v : Value} {sw : List (Int32 × Nat)} (h : zs15 len a b x = some (.inl y)) : y.2.2.2 = x.2.2.2 := by
  obtain ⟨pc, lo, st, h1⟩ := x
  simp only [zs15, zgo, Bool.cond_eq_ite] at h
  first
  | (cases h; rfl)
  | (repeat' split at h
     all_goals first
       | (cases h; done)
       | (cases h; rfl))
theorem zh_16 {x y : zC} {len a b c : Nat} {v : Value} {sw : List (Int32 × Nat)} (h : zs16 len a b x = some (.inl y)) : y.2.2.2 = x.2.2.2 := by
  obtain ⟨pc, lo, st, h1⟩ := x
  simp only [zs16, zgo, Bool.cond_eq_ite] at h
  first
  | (cases h; rfl)
  | (repeat' split at h
     all_goals first
       | (cases h; done)
       | (cases h; rfl))
theorem zh_17 {x y : zC} {len a b c : Nat} {v : Value} {sw : List (Int32 × Nat)} (h : zs17 a x = some (.inl y)) : y.2.2.2 = x.2.2.2 := by
  obtain ⟨pc, lo, st, h1⟩ := x
  simp only [zs17, zgo, Bool.cond_eq_ite] at h
  first
  | (cases h; rfl)
  | (repeat' split at h
     all_goals first
       | (cases h; done)
       | (cases h; rfl))
theorem zh_18 {x y : zC} {len a b c : Nat} {v : Value} {sw : List (Int32 × Nat)} (h : zs18 a sw x = some (.inl y)) : y.2.2.2 = x.2.2.2 := by
  obtain ⟨pc, lo, st, h1⟩ := x
  simp only [zs18, zgo, Bool.cond_eq_ite] at h
  first
  | (cases h; rfl)
  | (repeat' split at h
     all_goals first
       | (cases h; done)
       | (cases h; rfl))
theorem zh_19 {x y : zC} {len a b c : Nat} {v : Value} {sw : List (Int32 × Nat)} (h : zs19 len a v x = some (.inl y)) : y.2.2.2 = x.2.2.2 := by
  obtain ⟨pc, lo, st, h1⟩ := x
  simp only [zs19, zgo, Bool.cond_eq_ite] at h
  first
  | (cases h; rfl)
  | (repeat' split at h
     all_goals first
       | (cases h; done)
       | (cases h; rfl))
theorem zh_20 {x y : zC} {len a b c : Nat} {v : Value} {sw : List (Int32 × Nat)} (h : zs20 len a b c x = some (.inl y)) : y.2.2.2 = x.2.2.2 := by
  obtain ⟨pc, lo, st, h1⟩ := x
  simp only [zs20, zgo, Bool.cond_eq_ite] at h
  first
  | (cases h; rfl)
  | (repeat' split at h
     all_goals first
       | (cases h; done)
       | (cases h; rfl))
theorem zh_22 {x y : zC} {len a b c : Nat} {v : Value} {sw : List (Int32 × Nat)} (h : zs22 len x = some (.inl y)) : y.2.2.2 = x.2.2.2 := by
  obtain ⟨pc, lo, st, h1⟩ := x
  simp only [zs22, zgo, Bool.cond_eq_ite] at h
  first
  | (cases h; rfl)
  | (repeat' split at h
     all_goals first
       | (cases h; done)
       | (cases h; rfl))
theorem zh_23 {x y : zC} {len a b c : Nat} {v : Value} {sw : List (Int32 × Nat)} (h : zs23 len x = some (.inl y)) : y.2.2.2 = x.2.2.2 := by
  obtain ⟨pc, lo, st, h1⟩ := x
  simp only [zs23, zgo, Bool.cond_eq_ite] at h
  first
  | (cases h; rfl)
  | (repeat' split at h
     all_goals first
       | (cases h; done)
       | (cases h; rfl))
theorem zh_24 {x y : zC} {len a b c : Nat} {v : Value} {sw : List (Int32 × Nat)} (h : zs24 len x = some (.inl y)) : y.2.2.2 = x.2.2.2 := by
  obtain ⟨pc, lo, st, h1⟩ := x
  simp only [zs24, zgo, Bool.cond_eq_ite] at h
  first
  | (cases h; rfl)
  | (repeat' split at h
     all_goals first
       | (cases h; done)
       | (cases h; rfl))
theorem zh_28 {x y : zC} {len a b c : Nat} {v : Value} {sw : List (Int32 × Nat)} (h : zs28 len x = some (.inl y)) : y.2.2.2 = x.2.2.2 := by
  obtain ⟨pc, lo, st, h1⟩ := x
  simp only [zs28, zgo, Bool.cond_eq_ite] at h
  first
  | (cases h; rfl)
  | (repeat' split at h
     all_goals first
       | (cases h; done)
       | (cases h; rfl))
theorem zh_31 {x y : zC} {len a b c : Nat} {v : Value} {sw : List (Int32 × Nat)} (h : zs31 len b x = some (.inl y)) : y.2.2.2 = x.2.2.2 := by
  obtain ⟨pc, lo, st, h1⟩ := x
  simp only [zs31, zgo, Bool.cond_eq_ite] at h
  first
  | (cases h; rfl)
  | (repeat' split at h
     all_goals first
       | (cases h; done)
       | (cases h; rfl))
theorem zh_33 {x y : zC} {len a b c : Nat} {v : Value} {sw : List (Int32 × Nat)} (h : zs33 len x = some (.inl y)) : y.2.2.2 = x.2.2.2 := by
  obtain ⟨pc, lo, st, h1⟩ := x
  simp only [zs33, zgo, Bool.cond_eq_ite] at h
  first
  | (cases h; rfl)
  | (repeat' split at h
     all_goals first
       | (cases h; done)
       | (cases h; rfl))
theorem zh_39 {x y : zC} {len a b c : Nat} {v : Value} {sw : List (Int32 × Nat)} (h : zs39 len x = some (.inl y)) : y.2.2.2 = x.2.2.2 := by
  obtain ⟨pc, lo, st, h1⟩ := x
  simp only [zs39, zgo, Bool.cond_eq_ite] at h
  first
  | (cases h; rfl)
  | (repeat' split at h
     all_goals first
       | (cases h; done)
       | (cases h; rfl))
theorem zh_40 {x y : zC} {len a b c : Nat} {v : Value} {sw : List (Int32 × Nat)} (h : zs40 len x = some (.inl y)) : y.2.2.2 = x.2.2.2 := by
  obtain ⟨pc, lo, st, h1⟩ := x
  simp only [zs40, zgo, Bool.cond_eq_ite] at h
  first
  | (cases h; rfl)
  | (repeat' split at h
     all_goals first
       | (cases h; done)
       | (cases h; rfl))
theorem zh_41 {x y : zC} {len a b c : Nat} {v : Value} {sw : List (Int32 × Nat)} (h : zs41 len x = some (.inl y)) : y.2.2.2 = x.2.2.2 := by
  obtain ⟨pc, lo, st, h1⟩ := x
  simp only [zs41, zgo, Bool.cond_eq_ite] at h
  first
  | (cases h; rfl)
  | (repeat' split at h
     all_goals first
       | (cases h; done)
       | (cases h; rfl))
theorem zh_42 {x y : zC} {len a b c : Nat} {v : Value} {sw : List (Int32 × Nat)} (h : zs42 len x = some (.inl y)) : y.2.2.2 = x.2.2.2 := by
  obtain ⟨pc, lo, st, h1⟩ := x
  simp only [zs42, zgo, Bool.cond_eq_ite] at h
  first
  | (cases h; rfl)
  | (repeat' split at h
     all_goals first
       | (cases h; done)
       | (cases h; rfl))
theorem zh_43 {x y : zC} {len a b c : Nat} {v : Value} {sw : List (Int32 × Nat)} (h : zs43 len a x = some (.inl y)) : y.2.2.2 = x.2.2.2 := by
  obtain ⟨pc, lo, st, h1⟩ := x
  simp only [zs43, zgo, Bool.cond_eq_ite] at h
  first
  | (cases h; rfl)
  | (repeat' split at h
     all_goals first
       | (cases h; done)
       | (cases h; rfl))
theorem zh_44 {x y : zC} {len a b c : Nat} {v : Value} {sw : List (Int32 × Nat)} (h : zs44 len x = some (.inl y)) : y.2.2.2 = x.2.2.2 := by
  obtain ⟨pc, lo, st, h1⟩ := x
  simp only [zs44, zgo, Bool.cond_eq_ite] at h
  first
  | (cases h; rfl)
  | (repeat' split at h
     all_goals first
       | (cases h; done)
       | (cases h; rfl))
/-- behind a cell's end, and where no cell is, all is 0 -/
def hZ (h : zH) : Prop := ∀ o k, (∀ t n, zget h.1 o = some (t, n) → n ≤ k) → h.2.1 o k = 0
theorem hZ_up {h : zH} {o k t n : Nat} {x : Int32} (hz : hZ h) (hg : zget h.1 o = some (t, n)) (hk : k < n) : hZ (h.1, zup h.2.1 o k x, h.2.2.1, h.2.2.2) := by
  intro o' k' hq
  dsimp only at hq ⊢
  rw [zne_up (fun q => by
    have := hq t n (by rw [q.1]; exact hg)
    omega)]
  exact hz o' k' hq
theorem hZ_21 {x y : zC} {len a b c : Nat} (hz : hZ x.2.2.2) (h : zs21 len a b c x = some (.inl y)) : hZ y.2.2.2 := by
  obtain ⟨pc, lo, st, h1⟩ := x
  unfold zs21 zgo at h
  dsimp only at h hz
  split at h
  · split at h
    · rename_i t n hg
      generalize hc : (Nat.beq t (10 + a) && Nat.blt b n) = cc at h
      cases cc with
      | false => cases h
      | true =>
        rw [Bool.and_eq_true, Nat.blt_eq] at hc
        dsimp only [cond_true] at h
        split at h
        · cases h
          exact hZ_up hz hg hc.2
        · split at h
          · cases h
            exact hZ_up hz hg hc.2
          · cases h
        · cases h
    · cases h
  · split at h
    · rename_i t n hg
      generalize hc : (Nat.beq t (10 + a) && Nat.blt b n) = cc at h
      cases cc with
      | false => cases h
      | true =>
        dsimp only [cond_true] at h
        split at h
        · cases h
          exact hz
        · cases h
    · cases h
  · cases h
theorem hZ_25 {x y : zC} {len : Nat} (hz : hZ x.2.2.2) (h : zs25 len x = some (.inl y)) : hZ y.2.2.2 := by
  obtain ⟨pc, lo, st, h1⟩ := x
  unfold zs25 zgo at h
  dsimp only at h hz
  split at h
  · rename_i xv i o r
    split at h
    · rename_i t n hg
      generalize hc : (Nat.beq t 0 && Nat.blt (zix i) n) = cc at h
      cases cc with
      | false => cases h
      | true =>
        rw [Bool.and_eq_true, Nat.blt_eq] at hc
        cases h
        exact hZ_up hz hg hc.2
    · cases h
  · cases h
theorem hZ_26 {x y : zC} {len : Nat} (hz : hZ x.2.2.2) (h : zs26 len x = some (.inl y)) : hZ y.2.2.2 := by
  obtain ⟨pc, lo, st, h1⟩ := x
  simp only [zs26, zgo, Bool.cond_eq_ite] at h
  repeat' split at h
  all_goals first
    | (cases h; done)
    | (cases h; exact hz)
theorem hZ_27 {x y : zC} {len : Nat} (hz : hZ x.2.2.2) (h : zs27 len x = some (.inl y)) : hZ y.2.2.2 := by
  obtain ⟨pc, lo, st, h1⟩ := x
  simp only [zs27, zgo, Bool.cond_eq_ite] at h
  repeat' split at h
  all_goals first
    | (cases h; done)
    | (cases h; exact hz)
theorem hZ_new {h : zH} {t n : Nat} (hz : hZ h) : hZ (znew h t n) := by
  intro o k hq
  show zrow h.2.1 h.1.length (fun _ => 0) o k = 0
  have hq : ∀ t' n', zget (h.1 ++ [(t, n)]) o = some (t', n') → n' ≤ k := hq
  by_cases ho : o = h.1.length
  · subst ho
    rw [zrk_eq]
  · rw [zrk_ne ho]
    exact hz o k (fun t' n' hg => hq t' n' (zget_app hg))
theorem hZ_29 {x y : zC} {len a b : Nat} (hz : hZ x.2.2.2) (h : zs29 len a b x = some (.inl y)) : hZ y.2.2.2 := by
  obtain ⟨pc, lo, st, h1⟩ := x
  cases h
  exact hZ_new hz
theorem hZ_30 {x y : zC} {len a : Nat} (hz : hZ x.2.2.2) (h : zs30 len a x = some (.inl y)) : hZ y.2.2.2 := by
  obtain ⟨pc, lo, st, h1⟩ := x
  simp only [zs30, zgo, Bool.cond_eq_ite] at h
  repeat' split at h
  all_goals first
    | (cases h; done)
    | (cases h; exact hZ_new hz)
theorem hZ_34 {x y : zC} {len : Nat} (hz : hZ x.2.2.2) (h : zs34 len x = some (.inl y)) : hZ y.2.2.2 := by
  obtain ⟨pc, lo, st, h1⟩ := x
  unfold zs34 zgo at h
  dsimp only at h hz
  split at h
  · rename_i nn dp o1 sp o0 r
    split at h
    · rename_i t0 n0 t1 n1 g0 g1
      generalize hc : ((((Nat.beq t0 t1 && Nat.blt (zix nn) 100000) && (Nat.blt (zix sp) 100000 && Nat.blt (zix dp) 100000)) && (Nat.ble (zix sp + zix nn) n0 && Nat.ble (zix dp + zix nn) n1)) && Nat.ble (zcat r) 8) = cc at h
      cases cc with
      | false => cases h
      | true =>
        rw [Bool.and_eq_true, Bool.and_eq_true, Bool.and_eq_true (Nat.ble (zix sp + zix nn) n0), Nat.ble_eq, Nat.ble_eq] at hc
        dsimp only [cond_true] at h
        split at h
        · cases h
          intro o' k' hq
          dsimp only at hq ⊢
          by_cases ho : o' = o1
          · subst ho
            rw [zrk_eq]
            have hk := hq _ _ g1
            unfold zcpy
            rw [show (Nat.ble (zix dp) k' && Nat.blt k' (zix dp + zix nn)) = false by
              cases hb : Nat.blt k' (zix dp + zix nn)
              · rw [Bool.and_false]
              · rw [Nat.blt_eq] at hb
                omega]
            exact hz o' k' hq
          · rw [zrk_ne ho]
            exact hz o' k' hq
        · cases h
          exact hz
        · cases h
    · cases h
  · cases h
theorem zg_32n {x y : zC} {len a b c ci : Nat} (h : zs32 len a b c ci x = some (.inl y)) : False := by
  obtain ⟨pc, lo, st, h1⟩ := x
  simp only [zs32, Bool.cond_eq_ite] at h
  repeat' split at h
  all_goals cases h
theorem hZ_step {op len a b c : Nat} {v : Value} {sw : List (Int32 × Nat)} {x y : zC} (hz : hZ x.2.2.2) (h : zstep (op, len, a, b, c, v, sw) x = some (.inl y)) : hZ y.2.2.2 := by
  match op, h with
  | 0, h => rw [zh_0 (len := len) (a := a) (b := b) (c := c) (v := v) (sw := sw) h]; exact hz
  | 1, h => rw [zh_1 (len := len) (a := a) (b := b) (c := c) (v := v) (sw := sw) h]; exact hz
  | 2, h => rw [zh_2 (len := len) (a := a) (b := b) (c := c) (v := v) (sw := sw) h]; exact hz
  | 3, h => rw [zh_3 (len := len) (a := a) (b := b) (c := c) (v := v) (sw := sw) h]; exact hz
  | 4, h => rw [zh_4 (len := len) (a := a) (b := b) (c := c) (v := v) (sw := sw) h]; exact hz
  | 5, h => rw [zh_5 (len := len) (a := a) (b := b) (c := c) (v := v) (sw := sw) h]; exact hz
  | 6, h => rw [zh_6 (len := len) (a := a) (b := b) (c := c) (v := v) (sw := sw) h]; exact hz
  | 7, h => rw [zh_7 (len := len) (a := a) (b := b) (c := c) (v := v) (sw := sw) h]; exact hz
  | 8, h => rw [zh_8 (len := len) (a := a) (b := b) (c := c) (v := v) (sw := sw) h]; exact hz
  | 9, h => rw [zh_9 (len := len) (a := a) (b := b) (c := c) (v := v) (sw := sw) h]; exact hz
  | 10, h => rw [zh_10 (len := len) (a := a) (b := b) (c := c) (v := v) (sw := sw) h]; exact hz
  | 11, h => rw [zh_11 (len := len) (a := a) (b := b) (c := c) (v := v) (sw := sw) h]; exact hz
  | 12, h => rw [zh_12 (len := len) (a := a) (b := b) (c := c) (v := v) (sw := sw) h]; exact hz
  | 13, h => rw [zh_13 (len := len) (a := a) (b := b) (c := c) (v := v) (sw := sw) h]; exact hz
  | 14, h => rw [zh_14 (len := len) (a := a) (b := b) (c := c) (v := v) (sw := sw) h]; exact hz
  | 15, h => rw [zh_15 (len := len) (a := a) (b := b) (c := c) (v := v) (sw := sw) h]; exact hz
  | 16, h => rw [zh_16 (len := len) (a := a) (b := b) (c := c) (v := v) (sw := sw) h]; exact hz
  | 17, h => rw [zh_17 (len := len) (a := a) (b := b) (c := c) (v := v) (sw := sw) h]; exact hz
  | 18, h => rw [zh_18 (len := len) (a := a) (b := b) (c := c) (v := v) (sw := sw) h]; exact hz
  | 19, h => rw [zh_19 (len := len) (a := a) (b := b) (c := c) (v := v) (sw := sw) h]; exact hz
  | 20, h => rw [zh_20 (len := len) (a := a) (b := b) (c := c) (v := v) (sw := sw) h]; exact hz
  | 21, h => exact hZ_21 hz h
  | 22, h => rw [zh_22 (len := len) (a := a) (b := b) (c := c) (v := v) (sw := sw) h]; exact hz
  | 23, h => rw [zh_23 (len := len) (a := a) (b := b) (c := c) (v := v) (sw := sw) h]; exact hz
  | 24, h => rw [zh_24 (len := len) (a := a) (b := b) (c := c) (v := v) (sw := sw) h]; exact hz
  | 25, h => exact hZ_25 hz h
  | 26, h => exact hZ_26 hz h
  | 27, h => exact hZ_27 hz h
  | 28, h => rw [zh_28 (len := len) (a := a) (b := b) (c := c) (v := v) (sw := sw) h]; exact hz
  | 29, h => exact hZ_29 hz h
  | 30, h => exact hZ_30 hz h
  | 31, h => rw [zh_31 (len := len) (a := a) (b := b) (c := c) (v := v) (sw := sw) h]; exact hz
  | 32, h =>
    exfalso
    rcases zg_all h with ⟨_, _, e, _⟩ | ⟨_, _, _, e⟩ | ⟨_, e⟩
    · have := zg_32n h
      exact this
    · cases e
    · cases e
  | 33, h => rw [zh_33 (len := len) (a := a) (b := b) (c := c) (v := v) (sw := sw) h]; exact hz
  | 34, h => exact hZ_34 hz h
  | 35, h =>
    exfalso
    obtain ⟨_, e⟩ := zg_35 h
    cases e
  | 36, h =>
    exfalso
    obtain ⟨_, e⟩ := zg_36 h
    cases e
  | 37, h =>
    exfalso
    obtain ⟨_, e⟩ := zg_37 h
    cases e
  | 38, h =>
    exfalso
    obtain ⟨_, e⟩ := zg_38 h
    cases e
  | 39, h => rw [zh_39 (len := len) (a := a) (b := b) (c := c) (v := v) (sw := sw) h]; exact hz
  | 40, h => rw [zh_40 (len := len) (a := a) (b := b) (c := c) (v := v) (sw := sw) h]; exact hz
  | 41, h => rw [zh_41 (len := len) (a := a) (b := b) (c := c) (v := v) (sw := sw) h]; exact hz
  | 42, h => rw [zh_42 (len := len) (a := a) (b := b) (c := c) (v := v) (sw := sw) h]; exact hz
  | 43, h => rw [zh_43 (len := len) (a := a) (b := b) (c := c) (v := v) (sw := sw) h]; exact hz
  | 44, h => rw [zh_44 (len := len) (a := a) (b := b) (c := c) (v := v) (sw := sw) h]; exact hz
  | n + 45, h => cases h
theorem hZ_run : ∀ (f d mi stop : Nat) (x : zC) (o : zC ⊕ (Option Value × zH)), zr f d mi stop x = some o → hZ x.2.2.2 → hZ (zoh o)
  | 0, _, _, _, _, _, h, _ => by cases h
  | f + 1, d, mi, stop, x, o, h, hz => by
    rcases zr_step h with ⟨-, rfl⟩ | ⟨e, he, hq⟩
    · exact hz
    · obtain ⟨op, len, a, b, c, v, sw⟩ := e
      rcases hq with ⟨y, hy, hr⟩ | ⟨r, hy, rfl⟩ | ⟨a', as, y, d1, r, h1, hy, rfl, hl, h2, h3⟩
      · exact hZ_run f d mi stop y o hr (hZ_step hz hy)
      · exact hz
      · exact hZ_run f (d1 + 1) mi stop _ o h3 (hZ_run f d1 a' 100000 _ _ h2 hz)
