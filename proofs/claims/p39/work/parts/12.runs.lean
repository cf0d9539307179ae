/-! RUNS: what a step can give, how cells grow. -/
section ZE
variable {len a b k3 ci : Nat} {v : Value} {sw : List (Int32 × Nat)} {x : zC} {o : zO}
theorem zg_0 (h0 : zs0 len v x = some o) : ∃ y q, o = .inl y ∧ y.2.2.2.1 = x.2.2.2.1 ++ q := by
  obtain ⟨pc, lo, st, h⟩ := x
  simp only [zs0, zgo, Bool.cond_eq_ite] at h0
  repeat' split at h0
  all_goals first
    | (cases h0; done)
    | (cases h0; exact ⟨_, [], rfl, (List.append_nil _).symm⟩)
    | (cases h0; exact ⟨_, [_], rfl, rfl⟩)
theorem zg_1 (h0 : zs1 len a x = some o) : ∃ y q, o = .inl y ∧ y.2.2.2.1 = x.2.2.2.1 ++ q := by
  obtain ⟨pc, lo, st, h⟩ := x
  simp only [zs1, zgo, Bool.cond_eq_ite] at h0
  repeat' split at h0
  all_goals first
    | (cases h0; done)
    | (cases h0; exact ⟨_, [], rfl, (List.append_nil _).symm⟩)
    | (cases h0; exact ⟨_, [_], rfl, rfl⟩)
theorem zg_2 (h0 : zs2 len a x = some o) : ∃ y q, o = .inl y ∧ y.2.2.2.1 = x.2.2.2.1 ++ q := by
  obtain ⟨pc, lo, st, h⟩ := x
  simp only [zs2, zgo, Bool.cond_eq_ite] at h0
  repeat' split at h0
  all_goals first
    | (cases h0; done)
    | (cases h0; exact ⟨_, [], rfl, (List.append_nil _).symm⟩)
    | (cases h0; exact ⟨_, [_], rfl, rfl⟩)
theorem zg_3 (h0 : zs3 len a x = some o) : ∃ y q, o = .inl y ∧ y.2.2.2.1 = x.2.2.2.1 ++ q := by
  obtain ⟨pc, lo, st, h⟩ := x
  simp only [zs3, zgo, Bool.cond_eq_ite] at h0
  repeat' split at h0
  all_goals first
    | (cases h0; done)
    | (cases h0; exact ⟨_, [], rfl, (List.append_nil _).symm⟩)
    | (cases h0; exact ⟨_, [_], rfl, rfl⟩)
theorem zg_4 (h0 : zs4 len a x = some o) : ∃ y q, o = .inl y ∧ y.2.2.2.1 = x.2.2.2.1 ++ q := by
  obtain ⟨pc, lo, st, h⟩ := x
  simp only [zs4, zgo, Bool.cond_eq_ite] at h0
  repeat' split at h0
  all_goals first
    | (cases h0; done)
    | (cases h0; exact ⟨_, [], rfl, (List.append_nil _).symm⟩)
    | (cases h0; exact ⟨_, [_], rfl, rfl⟩)
theorem zg_5 (h0 : zs5 len a x = some o) : ∃ y q, o = .inl y ∧ y.2.2.2.1 = x.2.2.2.1 ++ q := by
  obtain ⟨pc, lo, st, h⟩ := x
  simp only [zs5, zgo, Bool.cond_eq_ite] at h0
  repeat' split at h0
  all_goals first
    | (cases h0; done)
    | (cases h0; exact ⟨_, [], rfl, (List.append_nil _).symm⟩)
    | (cases h0; exact ⟨_, [_], rfl, rfl⟩)
theorem zg_6 (h0 : zs6 len a x = some o) : ∃ y q, o = .inl y ∧ y.2.2.2.1 = x.2.2.2.1 ++ q := by
  obtain ⟨pc, lo, st, h⟩ := x
  simp only [zs6, zgo, Bool.cond_eq_ite] at h0
  repeat' split at h0
  all_goals first
    | (cases h0; done)
    | (cases h0; exact ⟨_, [], rfl, (List.append_nil _).symm⟩)
    | (cases h0; exact ⟨_, [_], rfl, rfl⟩)
theorem zg_7 (h0 : zs7 len b x = some o) : ∃ y q, o = .inl y ∧ y.2.2.2.1 = x.2.2.2.1 ++ q := by
  obtain ⟨pc, lo, st, h⟩ := x
  simp only [zs7, zgo, Bool.cond_eq_ite] at h0
  repeat' split at h0
  all_goals first
    | (cases h0; done)
    | (cases h0; exact ⟨_, [], rfl, (List.append_nil _).symm⟩)
    | (cases h0; exact ⟨_, [_], rfl, rfl⟩)
theorem zg_8 (h0 : zs8 len b x = some o) : ∃ y q, o = .inl y ∧ y.2.2.2.1 = x.2.2.2.1 ++ q := by
  obtain ⟨pc, lo, st, h⟩ := x
  simp only [zs8, zgo, Bool.cond_eq_ite] at h0
  repeat' split at h0
  all_goals first
    | (cases h0; done)
    | (cases h0; exact ⟨_, [], rfl, (List.append_nil _).symm⟩)
    | (cases h0; exact ⟨_, [_], rfl, rfl⟩)
theorem zg_9 (h0 : zs9 len b x = some o) : ∃ y q, o = .inl y ∧ y.2.2.2.1 = x.2.2.2.1 ++ q := by
  obtain ⟨pc, lo, st, h⟩ := x
  simp only [zs9, zgo, Bool.cond_eq_ite] at h0
  repeat' split at h0
  all_goals first
    | (cases h0; done)
    | (cases h0; exact ⟨_, [], rfl, (List.append_nil _).symm⟩)
    | (cases h0; exact ⟨_, [_], rfl, rfl⟩)
theorem zg_10 (h0 : zs10 len x = some o) : ∃ y q, o = .inl y ∧ y.2.2.2.1 = x.2.2.2.1 ++ q := by
  obtain ⟨pc, lo, st, h⟩ := x
  simp only [zs10, zgo, Bool.cond_eq_ite] at h0
  repeat' split at h0
  all_goals first
    | (cases h0; done)
    | (cases h0; exact ⟨_, [], rfl, (List.append_nil _).symm⟩)
    | (cases h0; exact ⟨_, [_], rfl, rfl⟩)
theorem zg_11 (h0 : zs11 len x = some o) : ∃ y q, o = .inl y ∧ y.2.2.2.1 = x.2.2.2.1 ++ q := by
  obtain ⟨pc, lo, st, h⟩ := x
  simp only [zs11, zgo, Bool.cond_eq_ite] at h0
  repeat' split at h0
  all_goals first
    | (cases h0; done)
    | (cases h0; exact ⟨_, [], rfl, (List.append_nil _).symm⟩)
    | (cases h0; exact ⟨_, [_], rfl, rfl⟩)
theorem zg_12 (h0 : zs12 len b x = some o) : ∃ y q, o = .inl y ∧ y.2.2.2.1 = x.2.2.2.1 ++ q := by
  obtain ⟨pc, lo, st, h⟩ := x
  simp only [zs12, zgo, Bool.cond_eq_ite] at h0
  repeat' split at h0
  all_goals first
    | (cases h0; done)
    | (cases h0; exact ⟨_, [], rfl, (List.append_nil _).symm⟩)
    | (cases h0; exact ⟨_, [_], rfl, rfl⟩)
theorem zg_13 (h0 : zs13 len x = some o) : ∃ y q, o = .inl y ∧ y.2.2.2.1 = x.2.2.2.1 ++ q := by
  obtain ⟨pc, lo, st, h⟩ := x
  simp only [zs13, zgo, Bool.cond_eq_ite] at h0
  repeat' split at h0
  all_goals first
    | (cases h0; done)
    | (cases h0; exact ⟨_, [], rfl, (List.append_nil _).symm⟩)
    | (cases h0; exact ⟨_, [_], rfl, rfl⟩)
theorem zg_14 (h0 : zs14 len x = some o) : ∃ y q, o = .inl y ∧ y.2.2.2.1 = x.2.2.2.1 ++ q := by
  obtain ⟨pc, lo, st, h⟩ := x
  simp only [zs14, zgo, Bool.cond_eq_ite] at h0
  repeat' split at h0
  all_goals first
    | (cases h0; done)
    | (cases h0; exact ⟨_, [], rfl, (List.append_nil _).symm⟩)
    | (cases h0; exact ⟨_, [_], rfl, rfl⟩)
theorem zg_15 (h0 : zs15 len a b x = some o) : ∃ y q, o = .inl y ∧ y.2.2.2.1 = x.2.2.2.1 ++ q := by
  obtain ⟨pc, lo, st, h⟩ := x
  simp only [zs15, zgo, Bool.cond_eq_ite] at h0
  repeat' split at h0
  all_goals first
    | (cases h0; done)
    | (cases h0; exact ⟨_, [], rfl, (List.append_nil _).symm⟩)
    | (cases h0; exact ⟨_, [_], rfl, rfl⟩)
theorem zg_16 (h0 : zs16 len a b x = some o) : ∃ y q, o = .inl y ∧ y.2.2.2.1 = x.2.2.2.1 ++ q := by
  obtain ⟨pc, lo, st, h⟩ := x
  simp only [zs16, zgo, Bool.cond_eq_ite] at h0
  repeat' split at h0
  all_goals first
    | (cases h0; done)
    | (cases h0; exact ⟨_, [], rfl, (List.append_nil _).symm⟩)
    | (cases h0; exact ⟨_, [_], rfl, rfl⟩)
theorem zg_17 (h0 : zs17 a x = some o) : ∃ y q, o = .inl y ∧ y.2.2.2.1 = x.2.2.2.1 ++ q := by
  obtain ⟨pc, lo, st, h⟩ := x
  simp only [zs17, zgo, Bool.cond_eq_ite] at h0
  repeat' split at h0
  all_goals first
    | (cases h0; done)
    | (cases h0; exact ⟨_, [], rfl, (List.append_nil _).symm⟩)
    | (cases h0; exact ⟨_, [_], rfl, rfl⟩)
theorem zg_18 (h0 : zs18 a sw x = some o) : ∃ y q, o = .inl y ∧ y.2.2.2.1 = x.2.2.2.1 ++ q := by
  obtain ⟨pc, lo, st, h⟩ := x
  simp only [zs18, zgo, Bool.cond_eq_ite] at h0
  repeat' split at h0
  all_goals first
    | (cases h0; done)
    | (cases h0; exact ⟨_, [], rfl, (List.append_nil _).symm⟩)
    | (cases h0; exact ⟨_, [_], rfl, rfl⟩)
theorem zg_19 (h0 : zs19 len a v x = some o) : ∃ y q, o = .inl y ∧ y.2.2.2.1 = x.2.2.2.1 ++ q := by
  obtain ⟨pc, lo, st, h⟩ := x
  simp only [zs19, zgo, Bool.cond_eq_ite] at h0
  repeat' split at h0
  all_goals first
    | (cases h0; done)
    | (cases h0; exact ⟨_, [], rfl, (List.append_nil _).symm⟩)
    | (cases h0; exact ⟨_, [_], rfl, rfl⟩)
theorem zg_20 (h0 : zs20 len a b k3 x = some o) : ∃ y q, o = .inl y ∧ y.2.2.2.1 = x.2.2.2.1 ++ q := by
  obtain ⟨pc, lo, st, h⟩ := x
  simp only [zs20, zgo, Bool.cond_eq_ite] at h0
  repeat' split at h0
  all_goals first
    | (cases h0; done)
    | (cases h0; exact ⟨_, [], rfl, (List.append_nil _).symm⟩)
    | (cases h0; exact ⟨_, [_], rfl, rfl⟩)
theorem zg_21 (h0 : zs21 len a b k3 x = some o) : ∃ y q, o = .inl y ∧ y.2.2.2.1 = x.2.2.2.1 ++ q := by
  obtain ⟨pc, lo, st, h⟩ := x
  simp only [zs21, zgo, Bool.cond_eq_ite] at h0
  repeat' split at h0
  all_goals first
    | (cases h0; done)
    | (cases h0; exact ⟨_, [], rfl, (List.append_nil _).symm⟩)
    | (cases h0; exact ⟨_, [_], rfl, rfl⟩)
theorem zg_22 (h0 : zs22 len x = some o) : ∃ y q, o = .inl y ∧ y.2.2.2.1 = x.2.2.2.1 ++ q := by
  obtain ⟨pc, lo, st, h⟩ := x
  simp only [zs22, zgo, Bool.cond_eq_ite] at h0
  repeat' split at h0
  all_goals first
    | (cases h0; done)
    | (cases h0; exact ⟨_, [], rfl, (List.append_nil _).symm⟩)
    | (cases h0; exact ⟨_, [_], rfl, rfl⟩)
theorem zg_23 (h0 : zs23 len x = some o) : ∃ y q, o = .inl y ∧ y.2.2.2.1 = x.2.2.2.1 ++ q := by
  obtain ⟨pc, lo, st, h⟩ := x
  simp only [zs23, zgo, Bool.cond_eq_ite] at h0
  repeat' split at h0
  all_goals first
    | (cases h0; done)
    | (cases h0; exact ⟨_, [], rfl, (List.append_nil _).symm⟩)
    | (cases h0; exact ⟨_, [_], rfl, rfl⟩)
theorem zg_24 (h0 : zs24 len x = some o) : ∃ y q, o = .inl y ∧ y.2.2.2.1 = x.2.2.2.1 ++ q := by
  obtain ⟨pc, lo, st, h⟩ := x
  simp only [zs24, zgo, Bool.cond_eq_ite] at h0
  repeat' split at h0
  all_goals first
    | (cases h0; done)
    | (cases h0; exact ⟨_, [], rfl, (List.append_nil _).symm⟩)
    | (cases h0; exact ⟨_, [_], rfl, rfl⟩)
theorem zg_25 (h0 : zs25 len x = some o) : ∃ y q, o = .inl y ∧ y.2.2.2.1 = x.2.2.2.1 ++ q := by
  obtain ⟨pc, lo, st, h⟩ := x
  simp only [zs25, zgo, Bool.cond_eq_ite] at h0
  repeat' split at h0
  all_goals first
    | (cases h0; done)
    | (cases h0; exact ⟨_, [], rfl, (List.append_nil _).symm⟩)
    | (cases h0; exact ⟨_, [_], rfl, rfl⟩)
theorem zg_26 (h0 : zs26 len x = some o) : ∃ y q, o = .inl y ∧ y.2.2.2.1 = x.2.2.2.1 ++ q := by
  obtain ⟨pc, lo, st, h⟩ := x
  simp only [zs26, zgo, Bool.cond_eq_ite] at h0
  repeat' split at h0
  all_goals first
    | (cases h0; done)
    | (cases h0; exact ⟨_, [], rfl, (List.append_nil _).symm⟩)
    | (cases h0; exact ⟨_, [_], rfl, rfl⟩)
theorem zg_27 (h0 : zs27 len x = some o) : ∃ y q, o = .inl y ∧ y.2.2.2.1 = x.2.2.2.1 ++ q := by
  obtain ⟨pc, lo, st, h⟩ := x
  simp only [zs27, zgo, Bool.cond_eq_ite] at h0
  repeat' split at h0
  all_goals first
    | (cases h0; done)
    | (cases h0; exact ⟨_, [], rfl, (List.append_nil _).symm⟩)
    | (cases h0; exact ⟨_, [_], rfl, rfl⟩)
theorem zg_28 (h0 : zs28 len x = some o) : ∃ y q, o = .inl y ∧ y.2.2.2.1 = x.2.2.2.1 ++ q := by
  obtain ⟨pc, lo, st, h⟩ := x
  simp only [zs28, zgo, Bool.cond_eq_ite] at h0
  repeat' split at h0
  all_goals first
    | (cases h0; done)
    | (cases h0; exact ⟨_, [], rfl, (List.append_nil _).symm⟩)
    | (cases h0; exact ⟨_, [_], rfl, rfl⟩)
theorem zg_29 (h0 : zs29 len a b x = some o) : ∃ y q, o = .inl y ∧ y.2.2.2.1 = x.2.2.2.1 ++ q := by
  obtain ⟨pc, lo, st, h⟩ := x
  simp only [zs29, zgo, Bool.cond_eq_ite] at h0
  repeat' split at h0
  all_goals first
    | (cases h0; done)
    | (cases h0; exact ⟨_, [], rfl, (List.append_nil _).symm⟩)
    | (cases h0; exact ⟨_, [_], rfl, rfl⟩)
theorem zg_30 (h0 : zs30 len a x = some o) : ∃ y q, o = .inl y ∧ y.2.2.2.1 = x.2.2.2.1 ++ q := by
  obtain ⟨pc, lo, st, h⟩ := x
  simp only [zs30, zgo, Bool.cond_eq_ite] at h0
  repeat' split at h0
  all_goals first
    | (cases h0; done)
    | (cases h0; exact ⟨_, [], rfl, (List.append_nil _).symm⟩)
    | (cases h0; exact ⟨_, [_], rfl, rfl⟩)
theorem zg_31 (h0 : zs31 len b x = some o) : ∃ y q, o = .inl y ∧ y.2.2.2.1 = x.2.2.2.1 ++ q := by
  obtain ⟨pc, lo, st, h⟩ := x
  simp only [zs31, zgo, Bool.cond_eq_ite] at h0
  repeat' split at h0
  all_goals first
    | (cases h0; done)
    | (cases h0; exact ⟨_, [], rfl, (List.append_nil _).symm⟩)
    | (cases h0; exact ⟨_, [_], rfl, rfl⟩)
theorem zg_33 (h0 : zs33 len x = some o) : ∃ y q, o = .inl y ∧ y.2.2.2.1 = x.2.2.2.1 ++ q := by
  obtain ⟨pc, lo, st, h⟩ := x
  simp only [zs33, zgo, Bool.cond_eq_ite] at h0
  repeat' split at h0
  all_goals first
    | (cases h0; done)
    | (cases h0; exact ⟨_, [], rfl, (List.append_nil _).symm⟩)
    | (cases h0; exact ⟨_, [_], rfl, rfl⟩)
theorem zg_34 (h0 : zs34 len x = some o) : ∃ y q, o = .inl y ∧ y.2.2.2.1 = x.2.2.2.1 ++ q := by
  obtain ⟨pc, lo, st, h⟩ := x
  simp only [zs34, zgo, Bool.cond_eq_ite] at h0
  repeat' split at h0
  all_goals first
    | (cases h0; done)
    | (cases h0; exact ⟨_, [], rfl, (List.append_nil _).symm⟩)
    | (cases h0; exact ⟨_, [_], rfl, rfl⟩)
theorem zg_39 (h0 : zs39 len x = some o) : ∃ y q, o = .inl y ∧ y.2.2.2.1 = x.2.2.2.1 ++ q := by
  obtain ⟨pc, lo, st, h⟩ := x
  simp only [zs39, zgo, Bool.cond_eq_ite] at h0
  repeat' split at h0
  all_goals first
    | (cases h0; done)
    | (cases h0; exact ⟨_, [], rfl, (List.append_nil _).symm⟩)
    | (cases h0; exact ⟨_, [_], rfl, rfl⟩)
theorem zg_40 (h0 : zs40 len x = some o) : ∃ y q, o = .inl y ∧ y.2.2.2.1 = x.2.2.2.1 ++ q := by
  obtain ⟨pc, lo, st, h⟩ := x
  simp only [zs40, zgo, Bool.cond_eq_ite] at h0
  repeat' split at h0
  all_goals first
    | (cases h0; done)
    | (cases h0; exact ⟨_, [], rfl, (List.append_nil _).symm⟩)
    | (cases h0; exact ⟨_, [_], rfl, rfl⟩)
theorem zg_41 (h0 : zs41 len x = some o) : ∃ y q, o = .inl y ∧ y.2.2.2.1 = x.2.2.2.1 ++ q := by
  obtain ⟨pc, lo, st, h⟩ := x
  simp only [zs41, zgo, Bool.cond_eq_ite] at h0
  repeat' split at h0
  all_goals first
    | (cases h0; done)
    | (cases h0; exact ⟨_, [], rfl, (List.append_nil _).symm⟩)
    | (cases h0; exact ⟨_, [_], rfl, rfl⟩)
theorem zg_42 (h0 : zs42 len x = some o) : ∃ y q, o = .inl y ∧ y.2.2.2.1 = x.2.2.2.1 ++ q := by
  obtain ⟨pc, lo, st, h⟩ := x
  simp only [zs42, zgo, Bool.cond_eq_ite] at h0
  repeat' split at h0
  all_goals first
    | (cases h0; done)
    | (cases h0; exact ⟨_, [], rfl, (List.append_nil _).symm⟩)
    | (cases h0; exact ⟨_, [_], rfl, rfl⟩)
theorem zg_43 (h0 : zs43 len a x = some o) : ∃ y q, o = .inl y ∧ y.2.2.2.1 = x.2.2.2.1 ++ q := by
  obtain ⟨pc, lo, st, h⟩ := x
  simp only [zs43, zgo, Bool.cond_eq_ite] at h0
  repeat' split at h0
  all_goals first
    | (cases h0; done)
    | (cases h0; exact ⟨_, [], rfl, (List.append_nil _).symm⟩)
    | (cases h0; exact ⟨_, [_], rfl, rfl⟩)
theorem zg_44 (h0 : zs44 len x = some o) : ∃ y q, o = .inl y ∧ y.2.2.2.1 = x.2.2.2.1 ++ q := by
  obtain ⟨pc, lo, st, h⟩ := x
  simp only [zs44, zgo, Bool.cond_eq_ite] at h0
  repeat' split at h0
  all_goals first
    | (cases h0; done)
    | (cases h0; exact ⟨_, [], rfl, (List.append_nil _).symm⟩)
    | (cases h0; exact ⟨_, [_], rfl, rfl⟩)
theorem zg_32 (h0 : zs32 len a b k3 ci x = some o) : ∃ as y, o = .inr (.inl (a, as, y)) := by
  obtain ⟨pc, lo, st, h⟩ := x
  simp only [zs32, zgo, Bool.cond_eq_ite] at h0
  repeat' split at h0
  all_goals first
    | (cases h0; done)
    | (cases h0; exact ⟨_, _, rfl⟩)
theorem zg_35 (h0 : zs35 k3 x = some o) : ∃ r, o = .inr (.inr r) := by
  obtain ⟨pc, lo, st, h⟩ := x
  simp only [zs35, zgo, Bool.cond_eq_ite] at h0
  repeat' split at h0
  all_goals first
    | (cases h0; done)
    | (cases h0; exact ⟨_, rfl⟩)
theorem zg_36 (h0 : zs36  x = some o) : ∃ r, o = .inr (.inr r) := by
  obtain ⟨pc, lo, st, h⟩ := x
  simp only [zs36, zgo, Bool.cond_eq_ite] at h0
  repeat' split at h0
  all_goals first
    | (cases h0; done)
    | (cases h0; exact ⟨_, rfl⟩)
theorem zg_37 (h0 : zs37  x = some o) : ∃ r, o = .inr (.inr r) := by
  obtain ⟨pc, lo, st, h⟩ := x
  simp only [zs37, zgo, Bool.cond_eq_ite] at h0
  repeat' split at h0
  all_goals first
    | (cases h0; done)
    | (cases h0; exact ⟨_, rfl⟩)
theorem zg_38 (h0 : zs38  x = some o) : ∃ r, o = .inr (.inr r) := by
  obtain ⟨pc, lo, st, h⟩ := x
  simp only [zs38, zgo, Bool.cond_eq_ite] at h0
  repeat' split at h0
  all_goals first
    | (cases h0; done)
    | (cases h0; exact ⟨_, rfl⟩)
/-- what a step gives: on; a call, by instruction 32 alone; an end -/
theorem zg_all {op : Nat} (h0 : zstep (op, len, a, b, k3, v, sw) x = some o) : (∃ y q, o = .inl y ∧ y.2.2.2.1 = x.2.2.2.1 ++ q) ∨ (op = 32 ∧ ∃ as y, o = .inr (.inl (a, as, y))) ∨ ∃ r, o = .inr (.inr r) := by
  match op, h0 with
  | 0, h0 => exact Or.inl (zg_0 h0)
  | 1, h0 => exact Or.inl (zg_1 h0)
  | 2, h0 => exact Or.inl (zg_2 h0)
  | 3, h0 => exact Or.inl (zg_3 h0)
  | 4, h0 => exact Or.inl (zg_4 h0)
  | 5, h0 => exact Or.inl (zg_5 h0)
  | 6, h0 => exact Or.inl (zg_6 h0)
  | 7, h0 => exact Or.inl (zg_7 h0)
  | 8, h0 => exact Or.inl (zg_8 h0)
  | 9, h0 => exact Or.inl (zg_9 h0)
  | 10, h0 => exact Or.inl (zg_10 h0)
  | 11, h0 => exact Or.inl (zg_11 h0)
  | 12, h0 => exact Or.inl (zg_12 h0)
  | 13, h0 => exact Or.inl (zg_13 h0)
  | 14, h0 => exact Or.inl (zg_14 h0)
  | 15, h0 => exact Or.inl (zg_15 h0)
  | 16, h0 => exact Or.inl (zg_16 h0)
  | 17, h0 => exact Or.inl (zg_17 h0)
  | 18, h0 => exact Or.inl (zg_18 h0)
  | 19, h0 => exact Or.inl (zg_19 h0)
  | 20, h0 => exact Or.inl (zg_20 h0)
  | 21, h0 => exact Or.inl (zg_21 h0)
  | 22, h0 => exact Or.inl (zg_22 h0)
  | 23, h0 => exact Or.inl (zg_23 h0)
  | 24, h0 => exact Or.inl (zg_24 h0)
  | 25, h0 => exact Or.inl (zg_25 h0)
  | 26, h0 => exact Or.inl (zg_26 h0)
  | 27, h0 => exact Or.inl (zg_27 h0)
  | 28, h0 => exact Or.inl (zg_28 h0)
  | 29, h0 => exact Or.inl (zg_29 h0)
  | 30, h0 => exact Or.inl (zg_30 h0)
  | 31, h0 => exact Or.inl (zg_31 h0)
  | 32, h0 => exact Or.inr (Or.inl ⟨rfl, zg_32 h0⟩)
  | 33, h0 => exact Or.inl (zg_33 h0)
  | 34, h0 => exact Or.inl (zg_34 h0)
  | 35, h0 => exact Or.inr (Or.inr (zg_35 h0))
  | 36, h0 => exact Or.inr (Or.inr (zg_36 h0))
  | 37, h0 => exact Or.inr (Or.inr (zg_37 h0))
  | 38, h0 => exact Or.inr (Or.inr (zg_38 h0))
  | 39, h0 => exact Or.inl (zg_39 h0)
  | 40, h0 => exact Or.inl (zg_40 h0)
  | 41, h0 => exact Or.inl (zg_41 h0)
  | 42, h0 => exact Or.inl (zg_42 h0)
  | 43, h0 => exact Or.inl (zg_43 h0)
  | 44, h0 => exact Or.inl (zg_44 h0)
  | _ + 45, h0 => cases h0
end ZE
def zr : Nat → Nat → Nat → Nat → zC → Option (zC ⊕ (Option Value × zH))
  | 0, _, _, _, _ => none
  | f + 1, d, mi, stop, x => bif Nat.beq x.1 stop then some (.inl x) else match zi mi x.1 with
    | none => none
    | some e => match zstep e x with
      | none => none
      | some (.inl y) => zr f d mi stop y
      | some (.inr (.inr r)) => some (.inr (r, x.2.2.2))
      | some (.inr (.inl (a, as, y))) => match d with
        | 0 => none
        | d1 + 1 => bif Nat.beq (zpad (zL a) (zargs as)).length (zL a) then (match zr f d1 a 100000 (0, zpad (zL a) (zargs as), [], x.2.2.2) with
          | some (.inr (r, h1)) => zr f (d1 + 1) mi stop (y.1, y.2.1, r.toList ++ y.2.2.1, h1)
          | _ => none) else none
def zoh : zC ⊕ (Option Value × zH) → zH
  | .inl y => y.2.2.2
  | .inr q => q.2
theorem zslots_add : ∀ (l q : List (Nat × Nat)), zslots (l ++ q) = zslots l + zslots q
  | [], q => by simp [zslots]
  | x :: l, q => by simp [zslots, zslots_add l q]; omega
/-- one turn of a run -/
theorem zr_step {f d mi stop : Nat} {x : zC} {o : zC ⊕ (Option Value × zH)} (h : zr (f + 1) d mi stop x = some o) : (x.1 = stop ∧ o = .inl x) ∨ ∃ e, zi mi x.1 = some e ∧ ((∃ y, zstep e x = some (.inl y) ∧ zr f d mi stop y = some o) ∨ (∃ r, zstep e x = some (.inr (.inr r)) ∧ o = .inr (r, x.2.2.2)) ∨ ∃ a as y d1 r h1, zstep e x = some (.inr (.inl (a, as, y))) ∧ d = d1 + 1 ∧ (zpad (zL a) (zargs as)).length = zL a ∧ zr f d1 a 100000 (0, zpad (zL a) (zargs as), [], x.2.2.2) = some (.inr (r, h1)) ∧ zr f (d1 + 1) mi stop (y.1, y.2.1, r.toList ++ y.2.2.1, h1) = some o) := by
  simp only [zr] at h
  cases hb : Nat.beq x.1 stop
  · rw [hb] at h
    right
    dsimp only [cond_false] at h
    cases hz : zi mi x.1 with
    | none => rw [hz] at h; cases h
    | some e =>
      rw [hz] at h
      refine ⟨e, rfl, ?_⟩
      dsimp only at h
      cases hs : zstep e x with
      | none => rw [hs] at h; cases h
      | some w =>
        rw [hs] at h
        match w, h with
        | .inl y, h => exact Or.inl ⟨y, rfl, h⟩
        | .inr (.inr r), h =>
          cases h
          exact Or.inr (Or.inl ⟨r, rfl, rfl⟩)
        | .inr (.inl (a, as, y)), h =>
          right; right
          cases d with
          | zero => cases h
          | succ d1 =>
            dsimp only at h
            cases hl : Nat.beq (zpad (zL a) (zargs as)).length (zL a)
            · rw [hl] at h; cases h
            · rw [hl] at h
              dsimp only [cond_true] at h
              cases hq : zr f d1 a 100000 (0, zpad (zL a) (zargs as), [], x.2.2.2) with
              | none => rw [hq] at h; cases h
              | some u =>
                rw [hq] at h
                match u, h, hq with
                | .inl _, h, _ => cases h
                | .inr (r, h1), h, hq => exact ⟨a, as, y, d1, r, h1, rfl, rfl, Nat.eq_of_beq_eq_true hl, hq, h⟩
  · rw [hb] at h
    dsimp only [cond_true] at h
    cases h
    exact Or.inl ⟨Nat.eq_of_beq_eq_true hb, rfl⟩
theorem zr_ext : ∀ (f d mi stop : Nat) (x : zC) (o : zC ⊕ (Option Value × zH)), zr f d mi stop x = some o → ∃ q, (zoh o).1 = x.2.2.2.1 ++ q
  | 0, _, _, _, _, _, h => by cases h
  | f + 1, d, mi, stop, x, o, h => by
    rcases zr_step h with ⟨-, rfl⟩ | ⟨e, he, ⟨y, hy, hr⟩ | ⟨r, -, rfl⟩ | ⟨a, as, y, d1, r, h1, -, -, -, h2, h3⟩⟩
    · exact ⟨[], (List.append_nil _).symm⟩
    · obtain ⟨op, len, a, b, k3, v, sw⟩ := e
      rcases zg_all hy with ⟨y', q, e1, e2⟩ | ⟨-, as, y', e1⟩ | ⟨r, e1⟩
      · cases e1
        obtain ⟨q2, e3⟩ := zr_ext f d mi stop y o hr
        exact ⟨q ++ q2, by rw [e3, e2, List.append_assoc]⟩
      · cases e1
      · cases e1
    · exact ⟨[], (List.append_nil _).symm⟩
    · obtain ⟨q1, e1⟩ := zr_ext f d1 a 100000 _ _ h2
      obtain ⟨q2, e2⟩ := zr_ext f (d1 + 1) mi stop _ _ h3
      refine ⟨q1 ++ q2, ?_⟩
      rw [e2]
      show h1.1 ++ q2 = _
      have e1 : h1.1 = x.2.2.2.1 ++ q1 := e1
      rw [e1, List.append_assoc]
