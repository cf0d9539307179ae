/-! WHAT A STEP LEAVES ALONE: shapes; the rows of longs. -/
theorem zk_0 {x y : zC} {len a b c : Nat} {v : Value} {sw : List (Int32 × Nat)} (h : zs0 len v x = some (.inl y)) : y.2.2.2.1 = x.2.2.2.1 ∧ y.2.2.2.2.2.1 = x.2.2.2.2.2.1 := by
  obtain ⟨pc, lo, st, h1⟩ := x
  simp only [zs0, zgo, Bool.cond_eq_ite] at h
  first
  | (cases h; exact ⟨rfl, rfl⟩)
  | (repeat' split at h
     all_goals first
       | (cases h; done)
       | (cases h; exact ⟨rfl, rfl⟩))
theorem zk_1 {x y : zC} {len a b c : Nat} {v : Value} {sw : List (Int32 × Nat)} (h : zs1 len a x = some (.inl y)) : y.2.2.2.1 = x.2.2.2.1 ∧ y.2.2.2.2.2.1 = x.2.2.2.2.2.1 := by
  obtain ⟨pc, lo, st, h1⟩ := x
  simp only [zs1, zgo, Bool.cond_eq_ite] at h
  first
  | (cases h; exact ⟨rfl, rfl⟩)
  | (repeat' split at h
     all_goals first
       | (cases h; done)
       | (cases h; exact ⟨rfl, rfl⟩))
theorem zk_2 {x y : zC} {len a b c : Nat} {v : Value} {sw : List (Int32 × Nat)} (h : zs2 len a x = some (.inl y)) : y.2.2.2.1 = x.2.2.2.1 ∧ y.2.2.2.2.2.1 = x.2.2.2.2.2.1 := by
  obtain ⟨pc, lo, st, h1⟩ := x
  simp only [zs2, zgo, Bool.cond_eq_ite] at h
  first
  | (cases h; exact ⟨rfl, rfl⟩)
  | (repeat' split at h
     all_goals first
       | (cases h; done)
       | (cases h; exact ⟨rfl, rfl⟩))
theorem zk_3 {x y : zC} {len a b c : Nat} {v : Value} {sw : List (Int32 × Nat)} (h : zs3 len a x = some (.inl y)) : y.2.2.2.1 = x.2.2.2.1 ∧ y.2.2.2.2.2.1 = x.2.2.2.2.2.1 := by
  obtain ⟨pc, lo, st, h1⟩ := x
  simp only [zs3, zgo, Bool.cond_eq_ite] at h
  first
  | (cases h; exact ⟨rfl, rfl⟩)
  | (repeat' split at h
     all_goals first
       | (cases h; done)
       | (cases h; exact ⟨rfl, rfl⟩))
theorem zk_4 {x y : zC} {len a b c : Nat} {v : Value} {sw : List (Int32 × Nat)} (h : zs4 len a x = some (.inl y)) : y.2.2.2.1 = x.2.2.2.1 ∧ y.2.2.2.2.2.1 = x.2.2.2.2.2.1 := by
  obtain ⟨pc, lo, st, h1⟩ := x
  simp only [zs4, zgo, Bool.cond_eq_ite] at h
  first
  | (cases h; exact ⟨rfl, rfl⟩)
  | (repeat' split at h
     all_goals first
       | (cases h; done)
       | (cases h; exact ⟨rfl, rfl⟩))
theorem zk_5 {x y : zC} {len a b c : Nat} {v : Value} {sw : List (Int32 × Nat)} (h : zs5 len a x = some (.inl y)) : y.2.2.2.1 = x.2.2.2.1 ∧ y.2.2.2.2.2.1 = x.2.2.2.2.2.1 := by
  obtain ⟨pc, lo, st, h1⟩ := x
  simp only [zs5, zgo, Bool.cond_eq_ite] at h
  first
  | (cases h; exact ⟨rfl, rfl⟩)
  | (repeat' split at h
     all_goals first
       | (cases h; done)
       | (cases h; exact ⟨rfl, rfl⟩))
theorem zk_6 {x y : zC} {len a b c : Nat} {v : Value} {sw : List (Int32 × Nat)} (h : zs6 len a x = some (.inl y)) : y.2.2.2.1 = x.2.2.2.1 ∧ y.2.2.2.2.2.1 = x.2.2.2.2.2.1 := by
  obtain ⟨pc, lo, st, h1⟩ := x
  simp only [zs6, zgo, Bool.cond_eq_ite] at h
  first
  | (cases h; exact ⟨rfl, rfl⟩)
  | (repeat' split at h
     all_goals first
       | (cases h; done)
       | (cases h; exact ⟨rfl, rfl⟩))
theorem zk_7 {x y : zC} {len a b c : Nat} {v : Value} {sw : List (Int32 × Nat)} (h : zs7 len b x = some (.inl y)) : y.2.2.2.1 = x.2.2.2.1 ∧ y.2.2.2.2.2.1 = x.2.2.2.2.2.1 := by
  obtain ⟨pc, lo, st, h1⟩ := x
  simp only [zs7, zgo, Bool.cond_eq_ite] at h
  first
  | (cases h; exact ⟨rfl, rfl⟩)
  | (repeat' split at h
     all_goals first
       | (cases h; done)
       | (cases h; exact ⟨rfl, rfl⟩))
theorem zk_8 {x y : zC} {len a b c : Nat} {v : Value} {sw : List (Int32 × Nat)} (h : zs8 len b x = some (.inl y)) : y.2.2.2.1 = x.2.2.2.1 ∧ y.2.2.2.2.2.1 = x.2.2.2.2.2.1 := by
  obtain ⟨pc, lo, st, h1⟩ := x
  simp only [zs8, zgo, Bool.cond_eq_ite] at h
  first
  | (cases h; exact ⟨rfl, rfl⟩)
  | (repeat' split at h
     all_goals first
       | (cases h; done)
       | (cases h; exact ⟨rfl, rfl⟩))
theorem zk_9 {x y : zC} {len a b c : Nat} {v : Value} {sw : List (Int32 × Nat)} (h : zs9 len b x = some (.inl y)) : y.2.2.2.1 = x.2.2.2.1 ∧ y.2.2.2.2.2.1 = x.2.2.2.2.2.1 := by
  obtain ⟨pc, lo, st, h1⟩ := x
  simp only [zs9, zgo, Bool.cond_eq_ite] at h
  first
  | (cases h; exact ⟨rfl, rfl⟩)
  | (repeat' split at h
     all_goals first
       | (cases h; done)
       | (cases h; exact ⟨rfl, rfl⟩))
theorem zk_10 {x y : zC} {len a b c : Nat} {v : Value} {sw : List (Int32 × Nat)} (h : zs10 len x = some (.inl y)) : y.2.2.2.1 = x.2.2.2.1 ∧ y.2.2.2.2.2.1 = x.2.2.2.2.2.1 := by
  obtain ⟨pc, lo, st, h1⟩ := x
  simp only [zs10, zgo, Bool.cond_eq_ite] at h
  first
  | (cases h; exact ⟨rfl, rfl⟩)
  | (repeat' split at h
     all_goals first
       | (cases h; done)
       | (cases h; exact ⟨rfl, rfl⟩))
theorem zk_11 {x y : zC} {len a b c : Nat} {v : Value} {sw : List (Int32 × Nat)} (h : zs11 len x = some (.inl y)) : y.2.2.2.1 = x.2.2.2.1 ∧ y.2.2.2.2.2.1 = x.2.2.2.2.2.1 := by
  obtain ⟨pc, lo, st, h1⟩ := x
  simp only [zs11, zgo, Bool.cond_eq_ite] at h
  first
  | (cases h; exact ⟨rfl, rfl⟩)
  | (repeat' split at h
     all_goals first
       | (cases h; done)
       | (cases h; exact ⟨rfl, rfl⟩))
theorem zk_12 {x y : zC} {len a b c : Nat} {v : Value} {sw : List (Int32 × Nat)} (h : zs12 len b x = some (.inl y)) : y.2.2.2.1 = x.2.2.2.1 ∧ y.2.2.2.2.2.1 = x.2.2.2.2.2.1 := by
  obtain ⟨pc, lo, st, h1⟩ := x
  simp only [zs12, zgo, Bool.cond_eq_ite] at h
  first
  | (cases h; exact ⟨rfl, rfl⟩)
  | (repeat' split at h
     all_goals first
       | (cases h; done)
       | (cases h; exact ⟨rfl, rfl⟩))
theorem zk_13 {x y : zC} {len a b c : Nat} {v : Value} {sw : List (Int32 × Nat)} (h : zs13 len x = some (.inl y)) : y.2.2.2.1 = x.2.2.2.1 ∧ y.2.2.2.2.2.1 = x.2.2.2.2.2.1 := by
  obtain ⟨pc, lo, st, h1⟩ := x
  simp only [zs13, zgo, Bool.cond_eq_ite] at h
  first
  | (cases h; exact ⟨rfl, rfl⟩)
  | (repeat' split at h
     all_goals first
       | (cases h; done)
       | (cases h; exact ⟨rfl, rfl⟩))
theorem zk_14 {x y : zC} {len a b c : Nat} {v : Value} {sw : List (Int32 × Nat)} (h : zs14 len x = some (.inl y)) : y.2.2.2.1 = x.2.2.2.1 ∧ y.2.2.2.2.2.1 = x.2.2.2.2.2.1 := by
  obtain ⟨pc, lo, st, h1⟩ := x
  simp only [zs14, zgo, Bool.cond_eq_ite] at h
  first
  | (cases h; exact ⟨rfl, rfl⟩)
  | (repeat' split at h
     all_goals first
       | (cases h; done)
       | (cases h; exact ⟨rfl, rfl⟩))
theorem zk_15 {x y : zC} {len a b c : Nat} {v : Value} {sw : List (Int32 × Nat)} (h : zs15 len a b x = some (.inl y)) : y.2.2.2.1 = x.2.2.2.1 ∧ y.2.2.2.2.2.1 = x.2.2.2.2.2.1 := by
  obtain ⟨pc, lo, st, h1⟩ := x
  simp only [zs15, zgo, Bool.cond_eq_ite] at h
  first
  | (cases h; exact ⟨rfl, rfl⟩)
  | (repeat' split at h
     all_goals first
       | (cases h; done)
       | (cases h; exact ⟨rfl, rfl⟩))
theorem zk_16 {x y : zC} {len a b c : Nat} {v : Value} {sw : List (Int32 × Nat)} (h : zs16 len a b x = some (.inl y)) : y.2.2.2.1 = x.2.2.2.1 ∧ y.2.2.2.2.2.1 = x.2.2.2.2.2.1 := by
  obtain ⟨pc, lo, st, h1⟩ := x
  simp only [zs16, zgo, Bool.cond_eq_ite] at h
  first
  | (cases h; exact ⟨rfl, rfl⟩)
  | (repeat' split at h
     all_goals first
       | (cases h; done)
       | (cases h; exact ⟨rfl, rfl⟩))
theorem zk_17 {x y : zC} {len a b c : Nat} {v : Value} {sw : List (Int32 × Nat)} (h : zs17 a x = some (.inl y)) : y.2.2.2.1 = x.2.2.2.1 ∧ y.2.2.2.2.2.1 = x.2.2.2.2.2.1 := by
  obtain ⟨pc, lo, st, h1⟩ := x
  simp only [zs17, zgo, Bool.cond_eq_ite] at h
  first
  | (cases h; exact ⟨rfl, rfl⟩)
  | (repeat' split at h
     all_goals first
       | (cases h; done)
       | (cases h; exact ⟨rfl, rfl⟩))
theorem zk_18 {x y : zC} {len a b c : Nat} {v : Value} {sw : List (Int32 × Nat)} (h : zs18 a sw x = some (.inl y)) : y.2.2.2.1 = x.2.2.2.1 ∧ y.2.2.2.2.2.1 = x.2.2.2.2.2.1 := by
  obtain ⟨pc, lo, st, h1⟩ := x
  simp only [zs18, zgo, Bool.cond_eq_ite] at h
  first
  | (cases h; exact ⟨rfl, rfl⟩)
  | (repeat' split at h
     all_goals first
       | (cases h; done)
       | (cases h; exact ⟨rfl, rfl⟩))
theorem zk_19 {x y : zC} {len a b c : Nat} {v : Value} {sw : List (Int32 × Nat)} (h : zs19 len a v x = some (.inl y)) : y.2.2.2.1 = x.2.2.2.1 ∧ y.2.2.2.2.2.1 = x.2.2.2.2.2.1 := by
  obtain ⟨pc, lo, st, h1⟩ := x
  simp only [zs19, zgo, Bool.cond_eq_ite] at h
  first
  | (cases h; exact ⟨rfl, rfl⟩)
  | (repeat' split at h
     all_goals first
       | (cases h; done)
       | (cases h; exact ⟨rfl, rfl⟩))
theorem zk_20 {x y : zC} {len a b c : Nat} {v : Value} {sw : List (Int32 × Nat)} (h : zs20 len a b c x = some (.inl y)) : y.2.2.2.1 = x.2.2.2.1 ∧ y.2.2.2.2.2.1 = x.2.2.2.2.2.1 := by
  obtain ⟨pc, lo, st, h1⟩ := x
  simp only [zs20, zgo, Bool.cond_eq_ite] at h
  first
  | (cases h; exact ⟨rfl, rfl⟩)
  | (repeat' split at h
     all_goals first
       | (cases h; done)
       | (cases h; exact ⟨rfl, rfl⟩))
theorem zk_21 {x y : zC} {len a b c : Nat} {v : Value} {sw : List (Int32 × Nat)} (h : zs21 len a b c x = some (.inl y)) : y.2.2.2.1 = x.2.2.2.1 ∧ y.2.2.2.2.2.1 = x.2.2.2.2.2.1 := by
  obtain ⟨pc, lo, st, h1⟩ := x
  simp only [zs21, zgo, Bool.cond_eq_ite] at h
  first
  | (cases h; exact ⟨rfl, rfl⟩)
  | (repeat' split at h
     all_goals first
       | (cases h; done)
       | (cases h; exact ⟨rfl, rfl⟩))
theorem zk_22 {x y : zC} {len a b c : Nat} {v : Value} {sw : List (Int32 × Nat)} (h : zs22 len x = some (.inl y)) : y.2.2.2.1 = x.2.2.2.1 ∧ y.2.2.2.2.2.1 = x.2.2.2.2.2.1 := by
  obtain ⟨pc, lo, st, h1⟩ := x
  simp only [zs22, zgo, Bool.cond_eq_ite] at h
  first
  | (cases h; exact ⟨rfl, rfl⟩)
  | (repeat' split at h
     all_goals first
       | (cases h; done)
       | (cases h; exact ⟨rfl, rfl⟩))
theorem zk_23 {x y : zC} {len a b c : Nat} {v : Value} {sw : List (Int32 × Nat)} (h : zs23 len x = some (.inl y)) : y.2.2.2.1 = x.2.2.2.1 ∧ y.2.2.2.2.2.1 = x.2.2.2.2.2.1 := by
  obtain ⟨pc, lo, st, h1⟩ := x
  simp only [zs23, zgo, Bool.cond_eq_ite] at h
  first
  | (cases h; exact ⟨rfl, rfl⟩)
  | (repeat' split at h
     all_goals first
       | (cases h; done)
       | (cases h; exact ⟨rfl, rfl⟩))
theorem zk_24 {x y : zC} {len a b c : Nat} {v : Value} {sw : List (Int32 × Nat)} (h : zs24 len x = some (.inl y)) : y.2.2.2.1 = x.2.2.2.1 ∧ y.2.2.2.2.2.1 = x.2.2.2.2.2.1 := by
  obtain ⟨pc, lo, st, h1⟩ := x
  simp only [zs24, zgo, Bool.cond_eq_ite] at h
  first
  | (cases h; exact ⟨rfl, rfl⟩)
  | (repeat' split at h
     all_goals first
       | (cases h; done)
       | (cases h; exact ⟨rfl, rfl⟩))
theorem zk_25 {x y : zC} {len a b c : Nat} {v : Value} {sw : List (Int32 × Nat)} (h : zs25 len x = some (.inl y)) : y.2.2.2.1 = x.2.2.2.1 ∧ y.2.2.2.2.2.1 = x.2.2.2.2.2.1 := by
  obtain ⟨pc, lo, st, h1⟩ := x
  simp only [zs25, zgo, Bool.cond_eq_ite] at h
  first
  | (cases h; exact ⟨rfl, rfl⟩)
  | (repeat' split at h
     all_goals first
       | (cases h; done)
       | (cases h; exact ⟨rfl, rfl⟩))
theorem zk_26 {x y : zC} {len a b c : Nat} {v : Value} {sw : List (Int32 × Nat)} (h : zs26 len x = some (.inl y)) : y.2.2.2.1 = x.2.2.2.1 := by
  obtain ⟨pc, lo, st, h1⟩ := x
  simp only [zs26, zgo, Bool.cond_eq_ite] at h
  first
  | (cases h; exact rfl)
  | (repeat' split at h
     all_goals first
       | (cases h; done)
       | (cases h; exact rfl))
theorem zk_28 {x y : zC} {len a b c : Nat} {v : Value} {sw : List (Int32 × Nat)} (h : zs28 len x = some (.inl y)) : y.2.2.2.1 = x.2.2.2.1 ∧ y.2.2.2.2.2.1 = x.2.2.2.2.2.1 := by
  obtain ⟨pc, lo, st, h1⟩ := x
  simp only [zs28, zgo, Bool.cond_eq_ite] at h
  first
  | (cases h; exact ⟨rfl, rfl⟩)
  | (repeat' split at h
     all_goals first
       | (cases h; done)
       | (cases h; exact ⟨rfl, rfl⟩))
theorem zk_31 {x y : zC} {len a b c : Nat} {v : Value} {sw : List (Int32 × Nat)} (h : zs31 len b x = some (.inl y)) : y.2.2.2.1 = x.2.2.2.1 ∧ y.2.2.2.2.2.1 = x.2.2.2.2.2.1 := by
  obtain ⟨pc, lo, st, h1⟩ := x
  simp only [zs31, zgo, Bool.cond_eq_ite] at h
  first
  | (cases h; exact ⟨rfl, rfl⟩)
  | (repeat' split at h
     all_goals first
       | (cases h; done)
       | (cases h; exact ⟨rfl, rfl⟩))
theorem zk_34 {x y : zC} {len a b c : Nat} {v : Value} {sw : List (Int32 × Nat)} (h : zs34 len x = some (.inl y)) : y.2.2.2.1 = x.2.2.2.1 := by
  obtain ⟨pc, lo, st, h1⟩ := x
  simp only [zs34, zgo, Bool.cond_eq_ite] at h
  first
  | (cases h; exact rfl)
  | (repeat' split at h
     all_goals first
       | (cases h; done)
       | (cases h; exact rfl))
theorem zk_39 {x y : zC} {len a b c : Nat} {v : Value} {sw : List (Int32 × Nat)} (h : zs39 len x = some (.inl y)) : y.2.2.2.1 = x.2.2.2.1 ∧ y.2.2.2.2.2.1 = x.2.2.2.2.2.1 := by
  obtain ⟨pc, lo, st, h1⟩ := x
  simp only [zs39, zgo, Bool.cond_eq_ite] at h
  first
  | (cases h; exact ⟨rfl, rfl⟩)
  | (repeat' split at h
     all_goals first
       | (cases h; done)
       | (cases h; exact ⟨rfl, rfl⟩))
theorem zk_40 {x y : zC} {len a b c : Nat} {v : Value} {sw : List (Int32 × Nat)} (h : zs40 len x = some (.inl y)) : y.2.2.2.1 = x.2.2.2.1 ∧ y.2.2.2.2.2.1 = x.2.2.2.2.2.1 := by
  obtain ⟨pc, lo, st, h1⟩ := x
  simp only [zs40, zgo, Bool.cond_eq_ite] at h
  first
  | (cases h; exact ⟨rfl, rfl⟩)
  | (repeat' split at h
     all_goals first
       | (cases h; done)
       | (cases h; exact ⟨rfl, rfl⟩))
theorem zk_41 {x y : zC} {len a b c : Nat} {v : Value} {sw : List (Int32 × Nat)} (h : zs41 len x = some (.inl y)) : y.2.2.2.1 = x.2.2.2.1 ∧ y.2.2.2.2.2.1 = x.2.2.2.2.2.1 := by
  obtain ⟨pc, lo, st, h1⟩ := x
  simp only [zs41, zgo, Bool.cond_eq_ite] at h
  first
  | (cases h; exact ⟨rfl, rfl⟩)
  | (repeat' split at h
     all_goals first
       | (cases h; done)
       | (cases h; exact ⟨rfl, rfl⟩))
theorem zk_42 {x y : zC} {len a b c : Nat} {v : Value} {sw : List (Int32 × Nat)} (h : zs42 len x = some (.inl y)) : y.2.2.2.1 = x.2.2.2.1 ∧ y.2.2.2.2.2.1 = x.2.2.2.2.2.1 := by
  obtain ⟨pc, lo, st, h1⟩ := x
  simp only [zs42, zgo, Bool.cond_eq_ite] at h
  first
  | (cases h; exact ⟨rfl, rfl⟩)
  | (repeat' split at h
     all_goals first
       | (cases h; done)
       | (cases h; exact ⟨rfl, rfl⟩))
theorem zk_43 {x y : zC} {len a b c : Nat} {v : Value} {sw : List (Int32 × Nat)} (h : zs43 len a x = some (.inl y)) : y.2.2.2.1 = x.2.2.2.1 ∧ y.2.2.2.2.2.1 = x.2.2.2.2.2.1 := by
  obtain ⟨pc, lo, st, h1⟩ := x
  simp only [zs43, zgo, Bool.cond_eq_ite] at h
  first
  | (cases h; exact ⟨rfl, rfl⟩)
  | (repeat' split at h
     all_goals first
       | (cases h; done)
       | (cases h; exact ⟨rfl, rfl⟩))
theorem zk_44 {x y : zC} {len a b c : Nat} {v : Value} {sw : List (Int32 × Nat)} (h : zs44 len x = some (.inl y)) : y.2.2.2.1 = x.2.2.2.1 ∧ y.2.2.2.2.2.1 = x.2.2.2.2.2.1 := by
  obtain ⟨pc, lo, st, h1⟩ := x
  simp only [zs44, zgo, Bool.cond_eq_ite] at h
  first
  | (cases h; exact ⟨rfl, rfl⟩)
  | (repeat' split at h
     all_goals first
       | (cases h; done)
       | (cases h; exact ⟨rfl, rfl⟩))
theorem zkeep {S : Nat → Option (Nat × Nat)} {rf : Nat → Nat → List Nat} {B : aB} {W : Nat → Nat → Bool} {WA : Nat → Bool} {op len a b c : Nat} {v : Value} {sw : List (Int32 × Nat)} {X : aX} {Ys : List aX} {x y : zC} (hg : astepG S rf B W WA (op, len, a, b, c, v, sw) X = some (.inl Ys)) (hz : zstep (op, len, a, b, c, v, sw) x = some (.inl y)) : y.2.2.2.1 = x.2.2.2.1 ∧ ((Nat.beq op 26 || Nat.beq op 34) = false → y.2.2.2.2.2.1 = x.2.2.2.2.2.1) := by
  match op, hg, hz with
  | 0, hg, hz => exact ⟨(zk_0 (len := len) (a := a) (b := b) (c := c) (v := v) (sw := sw) hz).1, fun _ => (zk_0 (len := len) (a := a) (b := b) (c := c) (v := v) (sw := sw) hz).2⟩
  | 1, hg, hz => exact ⟨(zk_1 (len := len) (a := a) (b := b) (c := c) (v := v) (sw := sw) hz).1, fun _ => (zk_1 (len := len) (a := a) (b := b) (c := c) (v := v) (sw := sw) hz).2⟩
  | 2, hg, hz => exact ⟨(zk_2 (len := len) (a := a) (b := b) (c := c) (v := v) (sw := sw) hz).1, fun _ => (zk_2 (len := len) (a := a) (b := b) (c := c) (v := v) (sw := sw) hz).2⟩
  | 3, hg, hz => exact ⟨(zk_3 (len := len) (a := a) (b := b) (c := c) (v := v) (sw := sw) hz).1, fun _ => (zk_3 (len := len) (a := a) (b := b) (c := c) (v := v) (sw := sw) hz).2⟩
  | 4, hg, hz => exact ⟨(zk_4 (len := len) (a := a) (b := b) (c := c) (v := v) (sw := sw) hz).1, fun _ => (zk_4 (len := len) (a := a) (b := b) (c := c) (v := v) (sw := sw) hz).2⟩
  | 5, hg, hz => exact ⟨(zk_5 (len := len) (a := a) (b := b) (c := c) (v := v) (sw := sw) hz).1, fun _ => (zk_5 (len := len) (a := a) (b := b) (c := c) (v := v) (sw := sw) hz).2⟩
  | 6, hg, hz => exact ⟨(zk_6 (len := len) (a := a) (b := b) (c := c) (v := v) (sw := sw) hz).1, fun _ => (zk_6 (len := len) (a := a) (b := b) (c := c) (v := v) (sw := sw) hz).2⟩
  | 7, hg, hz => exact ⟨(zk_7 (len := len) (a := a) (b := b) (c := c) (v := v) (sw := sw) hz).1, fun _ => (zk_7 (len := len) (a := a) (b := b) (c := c) (v := v) (sw := sw) hz).2⟩
  | 8, hg, hz => exact ⟨(zk_8 (len := len) (a := a) (b := b) (c := c) (v := v) (sw := sw) hz).1, fun _ => (zk_8 (len := len) (a := a) (b := b) (c := c) (v := v) (sw := sw) hz).2⟩
  | 9, hg, hz => exact ⟨(zk_9 (len := len) (a := a) (b := b) (c := c) (v := v) (sw := sw) hz).1, fun _ => (zk_9 (len := len) (a := a) (b := b) (c := c) (v := v) (sw := sw) hz).2⟩
  | 10, hg, hz => exact ⟨(zk_10 (len := len) (a := a) (b := b) (c := c) (v := v) (sw := sw) hz).1, fun _ => (zk_10 (len := len) (a := a) (b := b) (c := c) (v := v) (sw := sw) hz).2⟩
  | 11, hg, hz => exact ⟨(zk_11 (len := len) (a := a) (b := b) (c := c) (v := v) (sw := sw) hz).1, fun _ => (zk_11 (len := len) (a := a) (b := b) (c := c) (v := v) (sw := sw) hz).2⟩
  | 12, hg, hz => exact ⟨(zk_12 (len := len) (a := a) (b := b) (c := c) (v := v) (sw := sw) hz).1, fun _ => (zk_12 (len := len) (a := a) (b := b) (c := c) (v := v) (sw := sw) hz).2⟩
  | 13, hg, hz => exact ⟨(zk_13 (len := len) (a := a) (b := b) (c := c) (v := v) (sw := sw) hz).1, fun _ => (zk_13 (len := len) (a := a) (b := b) (c := c) (v := v) (sw := sw) hz).2⟩
  | 14, hg, hz => exact ⟨(zk_14 (len := len) (a := a) (b := b) (c := c) (v := v) (sw := sw) hz).1, fun _ => (zk_14 (len := len) (a := a) (b := b) (c := c) (v := v) (sw := sw) hz).2⟩
  | 15, hg, hz => exact ⟨(zk_15 (len := len) (a := a) (b := b) (c := c) (v := v) (sw := sw) hz).1, fun _ => (zk_15 (len := len) (a := a) (b := b) (c := c) (v := v) (sw := sw) hz).2⟩
  | 16, hg, hz => exact ⟨(zk_16 (len := len) (a := a) (b := b) (c := c) (v := v) (sw := sw) hz).1, fun _ => (zk_16 (len := len) (a := a) (b := b) (c := c) (v := v) (sw := sw) hz).2⟩
  | 17, hg, hz => exact ⟨(zk_17 (len := len) (a := a) (b := b) (c := c) (v := v) (sw := sw) hz).1, fun _ => (zk_17 (len := len) (a := a) (b := b) (c := c) (v := v) (sw := sw) hz).2⟩
  | 18, hg, hz => exact ⟨(zk_18 (len := len) (a := a) (b := b) (c := c) (v := v) (sw := sw) hz).1, fun _ => (zk_18 (len := len) (a := a) (b := b) (c := c) (v := v) (sw := sw) hz).2⟩
  | 19, hg, hz => exact ⟨(zk_19 (len := len) (a := a) (b := b) (c := c) (v := v) (sw := sw) hz).1, fun _ => (zk_19 (len := len) (a := a) (b := b) (c := c) (v := v) (sw := sw) hz).2⟩
  | 20, hg, hz => exact ⟨(zk_20 (len := len) (a := a) (b := b) (c := c) (v := v) (sw := sw) hz).1, fun _ => (zk_20 (len := len) (a := a) (b := b) (c := c) (v := v) (sw := sw) hz).2⟩
  | 21, hg, hz => exact ⟨(zk_21 (len := len) (a := a) (b := b) (c := c) (v := v) (sw := sw) hz).1, fun _ => (zk_21 (len := len) (a := a) (b := b) (c := c) (v := v) (sw := sw) hz).2⟩
  | 22, hg, hz => exact ⟨(zk_22 (len := len) (a := a) (b := b) (c := c) (v := v) (sw := sw) hz).1, fun _ => (zk_22 (len := len) (a := a) (b := b) (c := c) (v := v) (sw := sw) hz).2⟩
  | 23, hg, hz => exact ⟨(zk_23 (len := len) (a := a) (b := b) (c := c) (v := v) (sw := sw) hz).1, fun _ => (zk_23 (len := len) (a := a) (b := b) (c := c) (v := v) (sw := sw) hz).2⟩
  | 24, hg, hz => exact ⟨(zk_24 (len := len) (a := a) (b := b) (c := c) (v := v) (sw := sw) hz).1, fun _ => (zk_24 (len := len) (a := a) (b := b) (c := c) (v := v) (sw := sw) hz).2⟩
  | 25, hg, hz => exact ⟨(zk_25 (len := len) (a := a) (b := b) (c := c) (v := v) (sw := sw) hz).1, fun _ => (zk_25 (len := len) (a := a) (b := b) (c := c) (v := v) (sw := sw) hz).2⟩
  | 26, hg, hz => exact ⟨zk_26 (a := a) (b := b) (c := c) (v := v) (sw := sw) hz, fun q => by cases q⟩
  | 27, hg, hz => cases hg
  | 28, hg, hz => exact ⟨(zk_28 (len := len) (a := a) (b := b) (c := c) (v := v) (sw := sw) hz).1, fun _ => (zk_28 (len := len) (a := a) (b := b) (c := c) (v := v) (sw := sw) hz).2⟩
  | 29, hg, hz => cases hg
  | 30, hg, hz => cases hg
  | 31, hg, hz => exact ⟨(zk_31 (len := len) (a := a) (b := b) (c := c) (v := v) (sw := sw) hz).1, fun _ => (zk_31 (len := len) (a := a) (b := b) (c := c) (v := v) (sw := sw) hz).2⟩
  | 32, hg, hz => cases hg
  | 33, hg, hz => cases hg
  | 34, hg, hz => exact ⟨zk_34 (a := a) (b := b) (c := c) (v := v) (sw := sw) hz, fun q => by cases q⟩
  | 35, hg, hz => cases hg
  | 36, hg, hz => cases hg
  | 37, hg, hz => cases hg
  | 38, hg, hz => cases hg
  | 39, hg, hz => exact ⟨(zk_39 (len := len) (a := a) (b := b) (c := c) (v := v) (sw := sw) hz).1, fun _ => (zk_39 (len := len) (a := a) (b := b) (c := c) (v := v) (sw := sw) hz).2⟩
  | 40, hg, hz => exact ⟨(zk_40 (len := len) (a := a) (b := b) (c := c) (v := v) (sw := sw) hz).1, fun _ => (zk_40 (len := len) (a := a) (b := b) (c := c) (v := v) (sw := sw) hz).2⟩
  | 41, hg, hz => exact ⟨(zk_41 (len := len) (a := a) (b := b) (c := c) (v := v) (sw := sw) hz).1, fun _ => (zk_41 (len := len) (a := a) (b := b) (c := c) (v := v) (sw := sw) hz).2⟩
  | 42, hg, hz => exact ⟨(zk_42 (len := len) (a := a) (b := b) (c := c) (v := v) (sw := sw) hz).1, fun _ => (zk_42 (len := len) (a := a) (b := b) (c := c) (v := v) (sw := sw) hz).2⟩
  | 43, hg, hz => exact ⟨(zk_43 (len := len) (a := a) (b := b) (c := c) (v := v) (sw := sw) hz).1, fun _ => (zk_43 (len := len) (a := a) (b := b) (c := c) (v := v) (sw := sw) hz).2⟩
  | 44, hg, hz => exact ⟨(zk_44 (len := len) (a := a) (b := b) (c := c) (v := v) (sw := sw) hz).1, fun _ => (zk_44 (len := len) (a := a) (b := b) (c := c) (v := v) (sw := sw) hz).2⟩
  | n + 45, hg, hz => cases hg
